/-! TABLES: rows of numbers. -/
/-- a table at t, its numbers at c: room, width, rows, contents -/
def TblAt (h : mH) (t c room w rows : Nat) (f : Nat → Int32) : Prop :=
  h t = some (.inr (3, [.int (nI room), .int (nI w), .ref c, .int (nI rows)])) ∧ h c = some (.inl (0, room * w, f)) ∧ rows ≤ room ∧ room * w < 10000 ∧ t ≠ c ∧ c ≠ t ∧ 0 < w
def tset (σ : mS) (t c room w rows : Nat) (f : Nat → Int32) : mS := mset (mset σ t (.inr (3, [.int (nI room), .int (nI w), .ref c, .int (nI rows)]))) c (.inl (0, room * w, f))
theorem tset_2 {σ : mS} {t c room w rows : Nat} {f : Nat → Int32} : (tset σ t c room w rows f).2 = σ.2 := rfl
theorem tset_ne {σ : mS} {t c room w rows k : Nat} {f : Nat → Int32} (h1 : k ≠ t) (h2 : k ≠ c) : (tset σ t c room w rows f).1 k = σ.1 k := by
  rw [tset, mset_ne h2, mset_ne h1]
theorem tset_at {σ : mS} {t c room w rows rows' : Nat} {f f' : Nat → Int32} (h : TblAt σ.1 t c room w rows f) (hr : rows' ≤ room) : TblAt (tset σ t c room w rows' f').1 t c room w rows' f' := by
  obtain ⟨h1, h2, h3, h4, h5, h6, h7⟩ := h
  refine ⟨?_, ?_, hr, h4, h5, h6, h7⟩
  · rw [tset, mset_ne h5, mset_at]
  · rw [tset, mset_at]
theorem tset_tset {σ : mS} {t c room w rows rows' : Nat} {f f' : Nat → Int32} (h : c ≠ t) : tset (tset σ t c room w rows f) t c room w rows' f' = tset σ t c room w rows' f' := by
  simp only [tset]
  rw [mset_swap h, mset_mset, mset_mset]
theorem tset_cells {σ : mS} {t c room w rows : Nat} {f f' : Nat → Int32} (h : TblAt σ.1 t c room w rows f) : mset σ c (.inl (0, room * w, f')) = tset σ t c room w rows f' := by
  rw [tset, mset_same h.1]
theorem tset_same {σ : mS} {t c room w rows : Nat} {f : Nat → Int32} (h : TblAt σ.1 t c room w rows f) : tset σ t c room w rows f = σ := by
  rw [← tset_cells h, mset_same h.2.1]
/-- a row of zeros -/
def zrow (f : Nat → Int32) (a n : Nat) : Nat → Int32 := fun i => if a ≤ i ∧ i < a + n then 0 else f i
theorem zrow_0 (f : Nat → Int32) (a : Nat) : zrow f a 0 = f := by
  funext i
  unfold zrow
  rw [if_neg (by omega)]
theorem zrow_succ (f : Nat → Int32) (a n : Nat) : upd (zrow f a n) (a + n) 0 = zrow f a (n + 1) := by
  funext i
  unfold upd zrow
  by_cases h : i = a + n
  · subst h
    rw [if_pos rfl, if_pos (by omega)]
  · rw [if_neg h]
    by_cases h2 : a ≤ i ∧ i < a + n
    · rw [if_pos h2, if_pos (by omega)]
    · rw [if_neg h2, if_neg (by omega)]
section TABLE
variable {σ : mS} {t c room w rows : Nat} {f : Nat → Int32}
theorem tb_lt (h : room * w < 10000) (h0 : 0 < w) : room < 10000 := Nat.lt_of_le_of_lt (Nat.le_mul_of_pos_right _ h0) h
theorem tb_w (h : room * w < 10000) (h0 : 0 < room) : w < 10000 := Nat.lt_of_le_of_lt (Nat.le_mul_of_pos_left _ h0) h
theorem tb_in {j k : Nat} (hj : j < rows) (hr : rows ≤ room) (hk : k < w) : j * w + k < room * w := by
  have h1 : (j + 1) * w ≤ room * w := Nat.mul_le_mul_right w (by omega)
  have h2 : (j + 1) * w = j * w + w := Nat.succ_mul j w
  omega
theorem T_has_in (h : TblAt σ.1 t c room w rows f) {j : Nat} (hj : j < rows) : evM 37 [.ref t, .int (nI j)] σ = some (some (.int 1), σ) := by
  obtain ⟨h1, h2, h3, h4, h5, h6, h7⟩ := h
  have := tb_lt h4 h7
  simp (disch := first | omega | assumption | exact Nat.le_of_ble_eq_true rfl) only [m37, e37_0, e37_1, e37_4, e37_5, e37_6, e37_9, e37_12, e37_13, e37_16, e37_17b0, e37_17b1, gfK, pfK, lnK, isC, alK_n, asK_n, List.getElem?_cons_zero, List.getElem?_cons_succ, List.set_cons_zero, List.set_cons_succ, List.length_cons, List.length_nil, if_true, if_false, eq_self, and_true, true_and, and_self, Option.bind_some, Option.bind_none, Option.toList_some, Option.toList_none, List.cons_append, List.nil_append, mset_at, mset_ne, mset_2, mset_mset, Nat.reduceLT, Nat.reduceAdd, h1, nI_not_neg, nI_leI, show ¬ rows ≤ j from by omega]
theorem T_has_out (h : TblAt σ.1 t c room w rows f) {x : Int32} (hx : x < 0 ∨ nI rows ≤ x) : evM 37 [.ref t, .int x] σ = some (some (.int 0), σ) := by
  obtain ⟨h1, h2, h3, h4, h5, h6, h7⟩ := h
  by_cases hz : x < 0
  · simp (disch := first | omega | assumption | exact Nat.le_of_ble_eq_true rfl) only [m37, e37_0, e37_1, e37_4, e37_5, e37_6, e37_9, e37_12, e37_13, e37_16, e37_17b0, e37_17b1, gfK, pfK, lnK, isC, alK_n, asK_n, List.getElem?_cons_zero, List.getElem?_cons_succ, List.set_cons_zero, List.set_cons_succ, List.length_cons, List.length_nil, if_true, if_false, eq_self, and_true, true_and, and_self, Option.bind_some, Option.bind_none, Option.toList_some, Option.toList_none, List.cons_append, List.nil_append, mset_at, mset_ne, mset_2, mset_mset, Nat.reduceLT, Nat.reduceAdd, h1, hz]
  · have hy := hx.resolve_left hz
    simp (disch := first | omega | assumption | exact Nat.le_of_ble_eq_true rfl) only [m37, e37_0, e37_1, e37_4, e37_5, e37_6, e37_9, e37_12, e37_13, e37_16, e37_17b0, e37_17b1, gfK, pfK, lnK, isC, alK_n, asK_n, List.getElem?_cons_zero, List.getElem?_cons_succ, List.set_cons_zero, List.set_cons_succ, List.length_cons, List.length_nil, if_true, if_false, eq_self, and_true, true_and, and_self, Option.bind_some, Option.bind_none, Option.toList_some, Option.toList_none, List.cons_append, List.nil_append, mset_at, mset_ne, mset_2, mset_mset, Nat.reduceLT, Nat.reduceAdd, h1, hz, hy]
theorem T_isFull (h : TblAt σ.1 t c room w rows f) : evM 34 [.ref t] σ = some (some (.int (if rows < room then 0 else 1)), σ) := by
  obtain ⟨h1, h2, h3, h4, h5, h6, h7⟩ := h
  have := tb_lt h4 h7
  simp (disch := first | omega | assumption | exact Nat.le_of_ble_eq_true rfl) only [m34, e34_0, e34_1, e34_4, e34_5, e34_8, e34_11, e34_12, e34_15, e34_16b0, e34_16b1, gfK, pfK, lnK, isC, alK_n, asK_n, List.getElem?_cons_zero, List.getElem?_cons_succ, List.set_cons_zero, List.set_cons_succ, List.length_cons, List.length_nil, if_true, if_false, eq_self, and_true, true_and, and_self, Option.bind_some, Option.bind_none, Option.toList_some, Option.toList_none, List.cons_append, List.nil_append, mset_at, mset_ne, mset_2, mset_mset, Nat.reduceLT, Nat.reduceAdd, h1, nI_ltI]
  split <;> rfl
theorem T_cellOf_in (h : TblAt σ.1 t c room w rows f) {j k : Nat} (hj : j < rows) (hk : k < w) : evM 36 [.ref t, .int (nI j), .int (nI k)] σ = some (some (.int (nI (j * w + k))), σ) := by
  obtain ⟨h1, h2, h3, h4, h5, h6, h7⟩ := h
  have hr := tb_lt h4 h7
  have hw := tb_w h4 (by omega)
  have hin := tb_in hj h3 hk
  simp (disch := first | omega | assumption | exact Nat.le_of_ble_eq_true rfl) only [m36, e36_0, e36_1, e36_4, e36_5, e36_6, e36_9, e36_12, e36_13, e36_16, e36_17, e36_18, e36_21, e36_24, e36_25, e36_26, e36_27, e36_28, e36_31, e36_32, e36_33, e36_34i, e36_34n, e36_34r, e36_35, e36_36, e36_37, e36_40, e36_41, e36_44, e36_45, e36_48, e36_49, gfK, pfK, lnK, isC, alK_n, asK_n, List.getElem?_cons_zero, List.getElem?_cons_succ, List.set_cons_zero, List.set_cons_succ, List.length_cons, List.length_nil, if_true, if_false, eq_self, and_true, true_and, and_self, Option.bind_some, Option.bind_none, Option.toList_some, Option.toList_none, List.cons_append, List.nil_append, mset_at, mset_ne, mset_2, mset_mset, Nat.reduceLT, Nat.reduceAdd, h1, h2, nI_not_neg, nI_leI, nI_ltI, nI_add, pk_mul, show ¬ rows ≤ j from by omega, hk, show (Int32.ofNat (room * w)) = nI (room * w) from rfl, show ¬ room * w ≤ j * w + k from by omega]
theorem T_cellOf_out (h : TblAt σ.1 t c room w rows f) {x y : Int32} (hx : x < 0 ∨ nI rows ≤ x) : evM 36 [.ref t, .int x, .int y] σ = some (some (.int (-1)), σ) := by
  obtain ⟨h1, h2, h3, h4, h5, h6, h7⟩ := h
  by_cases hz : x < 0
  · simp (disch := first | omega | assumption | exact Nat.le_of_ble_eq_true rfl) only [m36, e36_0, e36_1, e36_4, e36_5, e36_6, e36_9, e36_12, e36_13, e36_16, e36_17, e36_18, e36_21, e36_24, e36_25, e36_26, e36_27, e36_28, e36_31, e36_32, e36_33, e36_34i, e36_34n, e36_34r, e36_35, e36_36, e36_37, e36_40, e36_41, e36_44, e36_45, e36_48, e36_49, gfK, pfK, lnK, isC, alK_n, asK_n, List.getElem?_cons_zero, List.getElem?_cons_succ, List.set_cons_zero, List.set_cons_succ, List.length_cons, List.length_nil, if_true, if_false, eq_self, and_true, true_and, and_self, Option.bind_some, Option.bind_none, Option.toList_some, Option.toList_none, List.cons_append, List.nil_append, mset_at, mset_ne, mset_2, mset_mset, Nat.reduceLT, Nat.reduceAdd, h1, hz]
  · have hy := hx.resolve_left hz
    simp (disch := first | omega | assumption | exact Nat.le_of_ble_eq_true rfl) only [m36, e36_0, e36_1, e36_4, e36_5, e36_6, e36_9, e36_12, e36_13, e36_16, e36_17, e36_18, e36_21, e36_24, e36_25, e36_26, e36_27, e36_28, e36_31, e36_32, e36_33, e36_34i, e36_34n, e36_34r, e36_35, e36_36, e36_37, e36_40, e36_41, e36_44, e36_45, e36_48, e36_49, gfK, pfK, lnK, isC, alK_n, asK_n, List.getElem?_cons_zero, List.getElem?_cons_succ, List.set_cons_zero, List.set_cons_succ, List.length_cons, List.length_nil, if_true, if_false, eq_self, and_true, true_and, and_self, Option.bind_some, Option.bind_none, Option.toList_some, Option.toList_none, List.cons_append, List.nil_append, mset_at, mset_ne, mset_2, mset_mset, Nat.reduceLT, Nat.reduceAdd, h1, hz, hy]
theorem T_get_in (h : TblAt σ.1 t c room w rows f) {j k : Nat} (hj : j < rows) (hk : k < w) : evM 38 [.ref t, .int (nI j), .int (nI k)] σ = some (some (.int (f (j * w + k))), σ) := by
  have hc := T_cellOf_in h hj hk
  obtain ⟨h1, h2, h3, h4, h5, h6, h7⟩ := h
  have hin := tb_in hj h3 hk
  simp (disch := first | omega | assumption | exact Nat.le_of_ble_eq_true rfl) only [m38, e38_0, e38_1, e38_2, e38_3, e38_6i, e38_6n, e38_6r, e38_7, e38_8, e38_11, e38_13, e38_16, e38_17, e38_20, e38_21, e38_22, gfK, pfK, lnK, isC, alK_n, asK_n, List.getElem?_cons_zero, List.getElem?_cons_succ, List.set_cons_zero, List.set_cons_succ, List.length_cons, List.length_nil, if_true, if_false, eq_self, and_true, true_and, and_self, Option.bind_some, Option.bind_none, Option.toList_some, Option.toList_none, List.cons_append, List.nil_append, mset_at, mset_ne, mset_2, mset_mset, Nat.reduceLT, Nat.reduceAdd, h1, h2, hc, nI_0_le]
theorem T_get_out (h : TblAt σ.1 t c room w rows f) {x y : Int32} (hx : x < 0 ∨ nI rows ≤ x) : evM 38 [.ref t, .int x, .int y] σ = some (some (.int (-9)), σ) := by
  have hc := T_cellOf_out (y := y) h hx
  obtain ⟨h1, h2, h3, h4, h5, h6, h7⟩ := h
  simp (disch := first | omega | assumption | exact Nat.le_of_ble_eq_true rfl) only [m38, e38_0, e38_1, e38_2, e38_3, e38_6i, e38_6n, e38_6r, e38_7, e38_8, e38_11, e38_13, e38_16, e38_17, e38_20, e38_21, e38_22, gfK, pfK, lnK, isC, alK_n, asK_n, List.getElem?_cons_zero, List.getElem?_cons_succ, List.set_cons_zero, List.set_cons_succ, List.length_cons, List.length_nil, if_true, if_false, eq_self, and_true, true_and, and_self, Option.bind_some, Option.bind_none, Option.toList_some, Option.toList_none, List.cons_append, List.nil_append, mset_at, mset_ne, mset_2, mset_mset, Nat.reduceLT, Nat.reduceAdd, h1, h2, hc, show ¬ ((0 : Int32) ≤ -1) from by decide]
theorem T_put_in (h : TblAt σ.1 t c room w rows f) {j k : Nat} {v : Int32} (hj : j < rows) (hk : k < w) : evM 35 [.ref t, .int (nI j), .int (nI k), .int v] σ = some (none, tset σ t c room w rows (upd f (j * w + k) v)) := by
  have hc := T_cellOf_in h hj hk
  have ht := tset_cells (f' := upd f (j * w + k) v) h
  obtain ⟨h1, h2, h3, h4, h5, h6, h7⟩ := h
  have hin := tb_in hj h3 hk
  simp (disch := first | omega | assumption | exact Nat.le_of_ble_eq_true rfl) only [m35, e35_0, e35_1, e35_2, e35_3, e35_6i, e35_6n, e35_6r, e35_8, e35_10, e35_13, e35_14, e35_17, e35_19, e35_20, e35_21, gfK, pfK, lnK, isC, alK_n, asK_n, List.getElem?_cons_zero, List.getElem?_cons_succ, List.set_cons_zero, List.set_cons_succ, List.length_cons, List.length_nil, if_true, if_false, eq_self, and_true, true_and, and_self, Option.bind_some, Option.bind_none, Option.toList_some, Option.toList_none, List.cons_append, List.nil_append, mset_at, mset_ne, mset_2, mset_mset, Nat.reduceLT, Nat.reduceAdd, h1, h2, hc, nI_not_neg, ht]
theorem T_put_out (h : TblAt σ.1 t c room w rows f) {x y v : Int32} (hx : x < 0 ∨ nI rows ≤ x) : evM 35 [.ref t, .int x, .int y, .int v] σ = some (none, σ) := by
  have hc := T_cellOf_out (y := y) h hx
  obtain ⟨h1, h2, h3, h4, h5, h6, h7⟩ := h
  simp (disch := first | omega | assumption | exact Nat.le_of_ble_eq_true rfl) only [m35, e35_0, e35_1, e35_2, e35_3, e35_6i, e35_6n, e35_6r, e35_8, e35_10, e35_13, e35_14, e35_17, e35_19, e35_20, e35_21, gfK, pfK, lnK, isC, alK_n, asK_n, List.getElem?_cons_zero, List.getElem?_cons_succ, List.set_cons_zero, List.set_cons_succ, List.length_cons, List.length_nil, if_true, if_false, eq_self, and_true, true_and, and_self, Option.bind_some, Option.bind_none, Option.toList_some, Option.toList_none, List.cons_append, List.nil_append, mset_at, mset_ne, mset_2, mset_mset, Nat.reduceLT, Nat.reduceAdd, h1, h2, hc, show (-1 : Int32) < 0 from by decide]
theorem T_add_in (h : TblAt σ.1 t c room w rows f) {j k : Nat} {v : Int32} (hj : j < rows) (hk : k < w) : evM 39 [.ref t, .int (nI j), .int (nI k), .int v] σ = some (none, tset σ t c room w rows (upd f (j * w + k) (f (j * w + k) + v))) := by
  have hg := T_get_in h hj hk
  have hp := T_put_in (v := f (j * w + k) + v) h hj hk
  obtain ⟨h1, h2, h3, h4, h5, h6, h7⟩ := h
  simp (disch := first | omega | assumption | exact Nat.le_of_ble_eq_true rfl) only [m39, e39_0, e39_1, e39_2, e39_3, e39_4, e39_5, e39_6, e39_9, e39_10, e39_11, e39_14, gfK, pfK, lnK, isC, alK_n, asK_n, List.getElem?_cons_zero, List.getElem?_cons_succ, List.set_cons_zero, List.set_cons_succ, List.length_cons, List.length_nil, if_true, if_false, eq_self, and_true, true_and, and_self, Option.bind_some, Option.bind_none, Option.toList_some, Option.toList_none, List.cons_append, List.nil_append, mset_at, mset_ne, mset_2, mset_mset, Nat.reduceLT, Nat.reduceAdd, h1, hg, hp]
theorem T_addRow_full (h : TblAt σ.1 t c room w rows f) (hf : ¬ rows < room) : evM 33 [.ref t] σ = some (some (.int (-9)), σ) := by
  have hi := T_isFull h
  obtain ⟨h1, h2, h3, h4, h5, h6, h7⟩ := h
  simp (disch := first | omega | assumption | exact Nat.le_of_ble_eq_true rfl) only [m33, e33_0, e33_1, e33_4, e33_7, e33_9, e33_10, e33_11, e33_14i, e33_14n, e33_14r, e33_15, e33_16i, e33_16r, e33_17, e33_20, e33_21, e33_22, e33_25, e33_26i, e33_26n, e33_26r, e33_28, e33_29, e33_32, e33_35, e33_36, e33_37, e33_38, e33_39, e33_42i, e33_42n, e33_42r, e33_45, e33_48, e33_49, gfK, pfK, lnK, isC, alK_n, asK_n, List.getElem?_cons_zero, List.getElem?_cons_succ, List.set_cons_zero, List.set_cons_succ, List.length_cons, List.length_nil, if_true, if_false, eq_self, and_true, true_and, and_self, Option.bind_some, Option.bind_none, Option.toList_some, Option.toList_none, List.cons_append, List.nil_append, mset_at, mset_ne, mset_2, mset_mset, Nat.reduceLT, Nat.reduceAdd, h1, hi, hf, show ¬ (1 : Int32) = 0 from by decide]
theorem T_addRow_loop (h : TblAt σ.1 t c room w rows f) {r : Nat} (hr : r < rows) : ∀ (n k : Nat), k + n = w → ev 33 27 [some (.ref t), some (.int (nI r)), some (.int (nI k))] [] (tset σ t c room w rows (zrow f (r * w) k)) = some (some (.int (nI r)), tset σ t c room w rows (zrow f (r * w) w))
  | 0, k, hk => by
    have hA := tset_at (f' := zrow f (r * w) k) h h.2.2.1
    have hk : k = w := by omega
    subst hk
    have hw := tb_w h.2.2.2.1 (by have := h.2.2.1; omega)
    have ha := hA.1
    simp (disch := first | omega | assumption | exact Nat.le_of_ble_eq_true rfl) only [m33, e33_0, e33_1, e33_4, e33_7, e33_9, e33_10, e33_11, e33_14i, e33_14n, e33_14r, e33_15, e33_16i, e33_16r, e33_17, e33_20, e33_21, e33_22, e33_25, e33_26i, e33_26n, e33_26r, e33_27, e33_28, e33_29, e33_32, e33_35, e33_36, e33_37, e33_38, e33_39, e33_42i, e33_42n, e33_42r, e33_45, e33_48, e33_49, gfK, pfK, lnK, isC, alK_n, asK_n, List.getElem?_cons_zero, List.getElem?_cons_succ, List.set_cons_zero, List.set_cons_succ, List.length_cons, List.length_nil, if_true, if_false, eq_self, and_true, true_and, and_self, Option.bind_some, Option.bind_none, Option.toList_some, Option.toList_none, List.cons_append, List.nil_append, mset_at, mset_ne, mset_2, mset_mset, Nat.reduceLT, Nat.reduceAdd, ha, nI_leI, Nat.le_refl]
  | n + 1, k, hk => by
    have ih := T_addRow_loop h hr n (k + 1) (by omega)
    have hA := tset_at (f' := zrow f (r * w) k) h h.2.2.1
    have hw := tb_w h.2.2.2.1 (by have := h.2.2.1; omega)
    have ha := hA.1
    have hp := T_put_in (v := 0) hA hr (show k < w by omega)
    rw [tset_tset h.2.2.2.2.2.1, zrow_succ] at hp
    rw [e33_27]
    simp (disch := first | omega | assumption | exact Nat.le_of_ble_eq_true rfl) only [m33, e33_28, e33_29, e33_32, e33_35, e33_36, e33_37, e33_38, e33_39, e33_42i, e33_42n, e33_42r, e33_45, gfK, pfK, lnK, isC, alK_n, asK_n, List.getElem?_cons_zero, List.getElem?_cons_succ, List.set_cons_zero, List.set_cons_succ, List.length_cons, List.length_nil, if_true, if_false, eq_self, and_true, true_and, and_self, Option.bind_some, Option.bind_none, Option.toList_some, Option.toList_none, List.cons_append, List.nil_append, mset_at, mset_ne, mset_2, mset_mset, Nat.reduceLT, Nat.reduceAdd, ha, nI_leI, show ¬ w ≤ k from by omega, hp, nI_succ', ih]
theorem T_addRow (h : TblAt σ.1 t c room w rows f) (hf : rows < room) : evM 33 [.ref t] σ = some (some (.int (nI rows)), tset σ t c room w (rows + 1) (zrow f (rows * w) w)) := by
  have hi := T_isFull h
  have hA := tset_at (rows' := rows + 1) (f' := f) h hf
  have hl := T_addRow_loop hA (show rows < rows + 1 by omega) w 0 (by omega)
  rw [zrow_0, tset_same hA, tset_tset h.2.2.2.2.2.1] at hl
  obtain ⟨h1, h2, h3, h4, h5, h6, h7⟩ := h
  have hs : mset σ t (.inr (3, [.int (nI room), .int (nI w), .ref c, .int (nI (rows + 1))])) = tset σ t c room w (rows + 1) f := by
    rw [tset, mset_swap h5, mset_same h2]
  rw [← lit_0] at hl
  simp (disch := first | omega | assumption | exact Nat.le_of_ble_eq_true rfl) only [m33, e33_0, e33_1, e33_4, e33_7, e33_9, e33_10, e33_11, e33_14i, e33_14n, e33_14r, e33_15, e33_16i, e33_16r, e33_17, e33_20, e33_21, e33_22, e33_25, e33_26i, e33_26n, e33_26r, e33_28, e33_29, e33_32, e33_35, e33_36, e33_37, e33_38, e33_39, e33_42i, e33_42n, e33_42r, e33_45, e33_48, e33_49, gfK, pfK, lnK, isC, alK_n, asK_n, List.getElem?_cons_zero, List.getElem?_cons_succ, List.set_cons_zero, List.set_cons_succ, List.length_cons, List.length_nil, if_true, if_false, eq_self, and_true, true_and, and_self, Option.bind_some, Option.bind_none, Option.toList_some, Option.toList_none, List.cons_append, List.nil_append, mset_at, mset_ne, mset_2, mset_mset, Nat.reduceLT, Nat.reduceAdd, h1, hi, hf, nI_succ', hs, hl]
end TABLE
