/-! READING on both sides: steps of it, and the draft's rows. -/
/-- the model stands at the token that begins at p -/
def YS (A : Nat → Nat → Int32) (n : Nat) (t : Nat → Nat) (p : Nat) (tk va fa dw db : Int32) : Nat → Nat → Int32 := RD A (nI (ed t n p)) tk (nI p) va fa dw db
theorem tk_all : ∀ s, s < 10 → ((((if s = 0 then 0 else if s = 1 then 3 else if s = 2 then 2 else if s ≤ 6 then 1 else if s ≤ 8 then 4 else 5 : Int32) = 3) ↔ s = 1) ∧ (((if s = 0 then 0 else if s = 1 then 3 else if s = 2 then 2 else if s ≤ 6 then 1 else if s ≤ 8 then 4 else 5 : Int32) = 2) ↔ s = 2) ∧ (((if s = 0 then 0 else if s = 1 then 3 else if s = 2 then 2 else if s ≤ 6 then 1 else if s ≤ 8 then 4 else 5 : Int32) = 0) ↔ s = 0) ∧ (((if s = 0 then 0 else if s = 1 then 3 else if s = 2 then 2 else if s ≤ 6 then 1 else if s ≤ 8 then 4 else 5 : Int32) = 1) ↔ (3 ≤ s ∧ s ≤ 6)) ∧ (((if s = 0 then 0 else if s = 1 then 3 else if s = 2 then 2 else if s ≤ 6 then 1 else if s ≤ 8 then 4 else 5 : Int32) = 4) ↔ (s = 7 ∨ s = 8))) := by decide +kernel
section YREAD
variable {b w : Nat} {u v : Int64} {A : Nat → Nat → Int32} {τ : Nat × Nat × Nat × (Nat → Int32)} {lc : Nat → Nat} {lt : Nat → Nat → Nat} {n : Nat} {t : Nat → Nat} {i j p e c k q s d : Nat} {x y z n0 tk pl va fa dw db : Int32} {σ : mS} {l1 l2 l3 l4 l5 : Option Value}
theorem tk_3 (h : MTk t n p tk va) : (tk = 3) = (tS t n p = 1) := by
  rw [h.1]
  exact propext (tk_all _ (by have := tS_le (t := t) (n := n) (p := p); omega)).1
theorem tk_2 (h : MTk t n p tk va) : (tk = 2) = (tS t n p = 2) := by
  rw [h.1]
  exact propext (tk_all _ (by have := tS_le (t := t) (n := n) (p := p); omega)).2.1
theorem tk_0 (h : MTk t n p tk va) : (tk = 0) = (tS t n p = 0) := by
  rw [h.1]
  exact propext (tk_all _ (by have := tS_le (t := t) (n := n) (p := p); omega)).2.2.1
theorem tk_1 (h : MTk t n p tk va) : (tk = 1) = (3 ≤ tS t n p ∧ tS t n p ≤ 6) := by
  rw [h.1]
  exact propext (tk_all _ (by have := tS_le (t := t) (n := n) (p := p); omega)).2.2.2.1
theorem tk_4 (h : MTk t n p tk va) : (tk = 4) = (tS t n p = 7 ∨ tS t n p = 8) := by
  rw [h.1]
  exact propext (tk_all _ (by have := tS_le (t := t) (n := n) (p := p); omega)).2.2.2.2
theorem y_step (hT : TY A n t) (hp : p ≤ n) : ∃ tk' va', evM 148 [.ref 60] (G b u v (YS A n t p tk va fa dw db) τ) = some (none, G b u v (YS A n t (nx t n p) tk' va' fa dw db) τ) ∧ MTk t n (nx t n p) tk' va' := y_adv hT (ed_le hp)
theorem y_well : evM 152 [.ref 60] (G b u v (RD A n0 tk pl va (-1) dw db) τ) = some (some (.int 1), G b u v (RD A n0 tk pl va (-1) dw db) τ) := by
  simp (disch := first | omega | assumption | exact Nat.le_of_ble_eq_true rfl) only [m152, e152_0, e152_1, e152_4, e152_7, e152_8, e152_11, e152_12b0, e152_12b1, Bool.false_eq_true, Bool.true_eq_false, gfK, pfK, lnK, isC, alK_n, asK_n, List.getElem?_cons_zero, List.getElem?_cons_succ, List.set_cons_zero, List.set_cons_succ, List.length_cons, List.length_nil, ↓reduceIte, if_true, if_false, eq_self, and_true, true_and, and_self, Option.bind_some, Option.bind_none, Option.toList_some, Option.toList_none, List.cons_append, List.nil_append, mset_at, mset_ne, mset_2, mset_mset, Nat.reduceLT, Nat.reduceAdd, G_RD, show ¬ (0 : Int32) ≤ -1 from by decide]
theorem y_ill (hq : q < 2147483648) : evM 152 [.ref 60] (G b u v (RD A n0 tk pl va (nI q) dw db) τ) = some (some (.int 0), G b u v (RD A n0 tk pl va (nI q) dw db) τ) := by
  simp (disch := first | omega | assumption | exact Nat.le_of_ble_eq_true rfl) only [m152, e152_0, e152_1, e152_4, e152_7, e152_8, e152_11, e152_12b0, e152_12b1, Bool.false_eq_true, Bool.true_eq_false, gfK, pfK, lnK, isC, alK_n, asK_n, List.getElem?_cons_zero, List.getElem?_cons_succ, List.set_cons_zero, List.set_cons_succ, List.length_cons, List.length_nil, ↓reduceIte, if_true, if_false, eq_self, and_true, true_and, and_self, Option.bind_some, Option.bind_none, Option.toList_some, Option.toList_none, List.cons_append, List.nil_append, mset_at, mset_ne, mset_2, mset_mset, Nat.reduceLT, Nat.reduceAdd, G_RD, nI_0_le]
theorem y_fails : evM 154 [.ref 60] (G b u v (RD A n0 tk pl va (-1) dw db) τ) = some (none, G b u v (RD A n0 tk pl va pl dw db) τ) := by
  simp (disch := first | omega | assumption | exact Nat.le_of_ble_eq_true rfl) only [m154, e154_0, e154_1, e154_2, e154_5, e154_8, e154_9, e154_12, e154_15, e154_16, e154_19, e154_22, Bool.false_eq_true, Bool.true_eq_false, gfK, pfK, lnK, isC, alK_n, asK_n, List.getElem?_cons_zero, List.getElem?_cons_succ, List.set_cons_zero, List.set_cons_succ, List.length_cons, List.length_nil, ↓reduceIte, if_true, if_false, eq_self, and_true, true_and, and_self, Option.bind_some, Option.bind_none, Option.toList_some, Option.toList_none, List.cons_append, List.nil_append, mset_at, mset_ne, mset_2, mset_mset, Nat.reduceLT, Nat.reduceAdd, G_RD, S_RD, show ¬ (0 : Int32) ≤ -1 from by decide]
theorem y_failsX (hq : q < 2147483648) : evM 154 [.ref 60] (G b u v (RD A n0 tk pl va (nI q) dw db) τ) = some (none, G b u v (RD A n0 tk pl va (nI q) dw db) τ) := by
  simp (disch := first | omega | assumption | exact Nat.le_of_ble_eq_true rfl) only [m154, e154_0, e154_1, e154_2, e154_5, e154_8, e154_9, e154_12, e154_15, e154_16, e154_19, e154_22, Bool.false_eq_true, Bool.true_eq_false, gfK, pfK, lnK, isC, alK_n, asK_n, List.getElem?_cons_zero, List.getElem?_cons_succ, List.set_cons_zero, List.set_cons_succ, List.length_cons, List.length_nil, ↓reduceIte, if_true, if_false, eq_self, and_true, true_and, and_self, Option.bind_some, Option.bind_none, Option.toList_some, Option.toList_none, List.cons_append, List.nil_append, mset_at, mset_ne, mset_2, mset_mset, Nat.reduceLT, Nat.reduceAdd, G_RD, S_RD, nI_0_le]
theorem y_isSign_x (hq : q < 2147483648) : evM 157 [.ref 60, .int x] (G b u v (RD A n0 tk pl va (nI q) dw db) τ) = some (some (.int 0), G b u v (RD A n0 tk pl va (nI q) dw db) τ) := by
  simp (disch := first | omega | assumption | exact Nat.le_of_ble_eq_true rfl) only [m157, e157_0, e157_1, e157_4, e157_7, e157_8, e157_11, e157_12, e157_15, e157_16, e157_19, e157_20, e157_23, e157_24, e157_27, e157_28b0, e157_28b1, Bool.false_eq_true, Bool.true_eq_false, gfK, pfK, lnK, isC, alK_n, asK_n, List.getElem?_cons_zero, List.getElem?_cons_succ, List.set_cons_zero, List.set_cons_succ, List.length_cons, List.length_nil, ↓reduceIte, if_true, if_false, eq_self, and_true, true_and, and_self, Option.bind_some, Option.bind_none, Option.toList_some, Option.toList_none, List.cons_append, List.nil_append, mset_at, mset_ne, mset_2, mset_mset, Nat.reduceLT, Nat.reduceAdd, G_RD, y_ill hq]
theorem y_isSign_t : evM 157 [.ref 60, .int x] (G b u v (RD A n0 4 pl x (-1) dw db) τ) = some (some (.int 1), G b u v (RD A n0 4 pl x (-1) dw db) τ) := by
  simp (disch := first | omega | assumption | exact Nat.le_of_ble_eq_true rfl) only [m157, e157_0, e157_1, e157_4, e157_7, e157_8, e157_11, e157_12, e157_15, e157_16, e157_19, e157_20, e157_23, e157_24, e157_27, e157_28b0, e157_28b1, Bool.false_eq_true, Bool.true_eq_false, gfK, pfK, lnK, isC, alK_n, asK_n, List.getElem?_cons_zero, List.getElem?_cons_succ, List.set_cons_zero, List.set_cons_succ, List.length_cons, List.length_nil, ↓reduceIte, if_true, if_false, eq_self, and_true, true_and, and_self, Option.bind_some, Option.bind_none, Option.toList_some, Option.toList_none, List.cons_append, List.nil_append, mset_at, mset_ne, mset_2, mset_mset, Nat.reduceLT, Nat.reduceAdd, G_RD, y_well, nz1]
theorem y_isSign_f (h : ¬ (tk = 4 ∧ va = x)) : evM 157 [.ref 60, .int x] (G b u v (RD A n0 tk pl va (-1) dw db) τ) = some (some (.int 0), G b u v (RD A n0 tk pl va (-1) dw db) τ) := by
  by_cases h1 : tk = 4
  · have h2 : ¬ va = x := fun q => h ⟨h1, q⟩
    simp (disch := first | omega | assumption | exact Nat.le_of_ble_eq_true rfl) only [m157, e157_0, e157_1, e157_4, e157_7, e157_8, e157_11, e157_12, e157_15, e157_16, e157_19, e157_20, e157_23, e157_24, e157_27, e157_28b0, e157_28b1, Bool.false_eq_true, Bool.true_eq_false, gfK, pfK, lnK, isC, alK_n, asK_n, List.getElem?_cons_zero, List.getElem?_cons_succ, List.set_cons_zero, List.set_cons_succ, List.length_cons, List.length_nil, ↓reduceIte, if_true, if_false, eq_self, and_true, true_and, and_self, Option.bind_some, Option.bind_none, Option.toList_some, Option.toList_none, List.cons_append, List.nil_append, mset_at, mset_ne, mset_2, mset_mset, Nat.reduceLT, Nat.reduceAdd, G_RD, y_well, nz1, eq_true h1, h2]
  · simp (disch := first | omega | assumption | exact Nat.le_of_ble_eq_true rfl) only [m157, e157_0, e157_1, e157_4, e157_7, e157_8, e157_11, e157_12, e157_15, e157_16, e157_19, e157_20, e157_23, e157_24, e157_27, e157_28b0, e157_28b1, Bool.false_eq_true, Bool.true_eq_false, gfK, pfK, lnK, isC, alK_n, asK_n, List.getElem?_cons_zero, List.getElem?_cons_succ, List.set_cons_zero, List.set_cons_succ, List.length_cons, List.length_nil, ↓reduceIte, if_true, if_false, eq_self, and_true, true_and, and_self, Option.bind_some, Option.bind_none, Option.toList_some, Option.toList_none, List.cons_append, List.nil_append, mset_at, mset_ne, mset_2, mset_mset, Nat.reduceLT, Nat.reduceAdd, G_RD, y_well, nz1, h1]
theorem y_sign_x (hq : q < 2147483648) : evM 156 [.ref 60, .int x] (G b u v (RD A n0 tk pl va (nI q) dw db) τ) = some (none, G b u v (RD A n0 tk pl va (nI q) dw db) τ) := by
  simp (disch := first | omega | assumption | exact Nat.le_of_ble_eq_true rfl) only [m156, e156_0, e156_1, e156_2, e156_5, e156_8, e156_9, e156_12, e156_15, e156_16, e156_19, Bool.false_eq_true, Bool.true_eq_false, gfK, pfK, lnK, isC, alK_n, asK_n, List.getElem?_cons_zero, List.getElem?_cons_succ, List.set_cons_zero, List.set_cons_succ, List.length_cons, List.length_nil, ↓reduceIte, if_true, if_false, eq_self, and_true, true_and, and_self, Option.bind_some, Option.bind_none, Option.toList_some, Option.toList_none, List.cons_append, List.nil_append, mset_at, mset_ne, mset_2, mset_mset, Nat.reduceLT, Nat.reduceAdd, G_RD, y_isSign_x hq, y_failsX hq]
theorem y_sign_f (h : ¬ (tk = 4 ∧ va = x)) : evM 156 [.ref 60, .int x] (G b u v (RD A n0 tk pl va (-1) dw db) τ) = some (none, G b u v (RD A n0 tk pl va pl dw db) τ) := by
  simp (disch := first | omega | assumption | exact Nat.le_of_ble_eq_true rfl) only [m156, e156_0, e156_1, e156_2, e156_5, e156_8, e156_9, e156_12, e156_15, e156_16, e156_19, Bool.false_eq_true, Bool.true_eq_false, gfK, pfK, lnK, isC, alK_n, asK_n, List.getElem?_cons_zero, List.getElem?_cons_succ, List.set_cons_zero, List.set_cons_succ, List.length_cons, List.length_nil, ↓reduceIte, if_true, if_false, eq_self, and_true, true_and, and_self, Option.bind_some, Option.bind_none, Option.toList_some, Option.toList_none, List.cons_append, List.nil_append, mset_at, mset_ne, mset_2, mset_mset, Nat.reduceLT, Nat.reduceAdd, G_RD, y_isSign_f h, y_fails]
theorem y_sign_t (hT : TY A n t) (hp : p ≤ n) : ∃ tk' va', evM 156 [.ref 60, .int x] (G b u v (YS A n t p 4 x (-1) dw db) τ) = some (none, G b u v (YS A n t (nx t n p) tk' va' (-1) dw db) τ) ∧ MTk t n (nx t n p) tk' va' := by
  obtain ⟨tk', va', h1, h2⟩ := y_step (b := b) (u := u) (v := v) (τ := τ) (tk := 4) (va := x) (fa := -1) (dw := dw) (db := db) hT hp
  refine ⟨tk', va', ?_, h2⟩
  unfold YS at h1 ⊢
  simp (disch := first | omega | assumption | exact Nat.le_of_ble_eq_true rfl) only [m156, e156_0, e156_1, e156_2, e156_5, e156_8, e156_9, e156_12, e156_15, e156_16, e156_19, Bool.false_eq_true, Bool.true_eq_false, gfK, pfK, lnK, isC, alK_n, asK_n, List.getElem?_cons_zero, List.getElem?_cons_succ, List.set_cons_zero, List.set_cons_succ, List.length_cons, List.length_nil, ↓reduceIte, if_true, if_false, eq_self, and_true, true_and, and_self, Option.bind_some, Option.bind_none, Option.toList_some, Option.toList_none, List.cons_append, List.nil_append, mset_at, mset_ne, mset_2, mset_mset, Nat.reduceLT, Nat.reduceAdd, G_RD, y_isSign_t, nz1, h1]
/-- the sign > or the sign ; -/
theorem sign_7 (h : MTk t n p tk va) : (tk = 4 ∧ va = 62) = (tS t n p = 7) := by
  rw [tk_4 h]
  refine propext ⟨fun q => ?_, fun q => ⟨Or.inl q, h.2.2.2.1 q⟩⟩
  rcases q.1 with g | g
  · exact g
  · have h1 := h.2.2.2.2 g
    rw [h1] at q
    exact absurd q.2 (by decide)
theorem sign_8 (h : MTk t n p tk va) : (tk = 4 ∧ va = 59) = (tS t n p = 8) := by
  rw [tk_4 h]
  refine propext ⟨fun q => ?_, fun q => ⟨Or.inr q, h.2.2.2.2 q⟩⟩
  rcases q.1 with g | g
  · have h1 := h.2.2.2.1 g
    rw [h1] at q
    exact absurd q.2 (by decide)
  · exact g
theorem y_gt (hT : TY A n t) (hp : p ≤ n) (hM : MTk t n p tk va) (hs : tS t n p = 7) : ∃ tk' va', evM 156 [.ref 60, .int 62] (G b u v (YS A n t p tk va (-1) dw db) τ) = some (none, G b u v (YS A n t (nx t n p) tk' va' (-1) dw db) τ) ∧ MTk t n (nx t n p) tk' va' := by
  have h := (sign_7 hM).symm ▸ hs
  rw [h.1, h.2]
  exact y_sign_t hT hp
theorem y_semi (hT : TY A n t) (hp : p ≤ n) (hM : MTk t n p tk va) (hs : tS t n p = 8) : ∃ tk' va', evM 156 [.ref 60, .int 59] (G b u v (YS A n t p tk va (-1) dw db) τ) = some (none, G b u v (YS A n t (nx t n p) tk' va' (-1) dw db) τ) ∧ MTk t n (nx t n p) tk' va' := by
  have h := (sign_8 hM).symm ▸ hs
  rw [h.1, h.2]
  exact y_sign_t hT hp
theorem y_gtF (hM : MTk t n p tk va) (hs : ¬ tS t n p = 7) : evM 156 [.ref 60, .int 62] (G b u v (RD A n0 tk pl va (-1) dw db) τ) = some (none, G b u v (RD A n0 tk pl va pl dw db) τ) := y_sign_f (fun q => hs ((sign_7 hM) ▸ q))
theorem y_semiF (hM : MTk t n p tk va) (hs : ¬ tS t n p = 8) : evM 156 [.ref 60, .int 59] (G b u v (RD A n0 tk pl va (-1) dw db) τ) = some (none, G b u v (RD A n0 tk pl va pl dw db) τ) := y_sign_f (fun q => hs ((sign_8 hM) ▸ q))
theorem y_state_x (hq : q < 2147483648) : evM 155 [.ref 60] (G b u v (RD A n0 tk pl va (nI q) dw db) τ) = some (some (.int 0), G b u v (RD A n0 tk pl va (nI q) dw db) τ) := by
  simp (disch := first | omega | assumption | exact Nat.le_of_ble_eq_true rfl) only [m155, e155_0, e155_1, e155_4, e155_7, e155_8, e155_11, e155_12, e155_15, e155_16, e155_19, e155_20, e155_21, e155_22, e155_25i, e155_25n, e155_25r, e155_26, e155_27, e155_30, e155_31, Bool.false_eq_true, Bool.true_eq_false, gfK, pfK, lnK, isC, alK_n, asK_n, List.getElem?_cons_zero, List.getElem?_cons_succ, List.set_cons_zero, List.set_cons_succ, List.length_cons, List.length_nil, ↓reduceIte, if_true, if_false, eq_self, and_true, true_and, and_self, Option.bind_some, Option.bind_none, Option.toList_some, Option.toList_none, List.cons_append, List.nil_append, mset_at, mset_ne, mset_2, mset_mset, Nat.reduceLT, Nat.reduceAdd, G_RD, y_ill hq, y_failsX hq]
theorem y_state_f (hM : MTk t n p tk va) (hs : ¬ tS t n p = 1) : evM 155 [.ref 60] (G b u v (RD A n0 tk pl va (-1) dw db) τ) = some (some (.int 0), G b u v (RD A n0 tk pl va pl dw db) τ) := by
  have h := (tk_3 hM) ▸ hs
  simp (disch := first | omega | assumption | exact Nat.le_of_ble_eq_true rfl) only [m155, e155_0, e155_1, e155_4, e155_7, e155_8, e155_11, e155_12, e155_15, e155_16, e155_19, e155_20, e155_21, e155_22, e155_25i, e155_25n, e155_25r, e155_26, e155_27, e155_30, e155_31, Bool.false_eq_true, Bool.true_eq_false, gfK, pfK, lnK, isC, alK_n, asK_n, List.getElem?_cons_zero, List.getElem?_cons_succ, List.set_cons_zero, List.set_cons_succ, List.length_cons, List.length_nil, ↓reduceIte, if_true, if_false, eq_self, and_true, true_and, and_self, Option.bind_some, Option.bind_none, Option.toList_some, Option.toList_none, List.cons_append, List.nil_append, mset_at, mset_ne, mset_2, mset_mset, Nat.reduceLT, Nat.reduceAdd, G_RD, y_well, nz1, h, y_fails]
theorem y_state_t (hT : TY A n t) (hp : p ≤ n) (hM : MTk t n p tk va) (hs : tS t n p = 1) : ∃ tk' va', evM 155 [.ref 60] (G b u v (YS A n t p tk va (-1) dw db) τ) = some (some (.int (nI (tV t n p))), G b u v (YS A n t (nx t n p) tk' va' (-1) dw db) τ) ∧ MTk t n (nx t n p) tk' va' := by
  obtain ⟨tk', va', h1, h2⟩ := y_step (b := b) (u := u) (v := v) (τ := τ) (tk := tk) (va := va) (fa := -1) (dw := dw) (db := db) hT hp
  refine ⟨tk', va', ?_, h2⟩
  have h := (tk_3 hM).symm ▸ hs
  have hv := hM.2.1 (Or.inl hs)
  unfold YS at h1 ⊢
  simp (disch := first | omega | assumption | exact Nat.le_of_ble_eq_true rfl) only [m155, e155_0, e155_1, e155_4, e155_7, e155_8, e155_11, e155_12, e155_15, e155_16, e155_19, e155_20, e155_21, e155_22, e155_25i, e155_25n, e155_25r, e155_26, e155_27, e155_30, e155_31, Bool.false_eq_true, Bool.true_eq_false, gfK, pfK, lnK, isC, alK_n, asK_n, List.getElem?_cons_zero, List.getElem?_cons_succ, List.set_cons_zero, List.set_cons_succ, List.length_cons, List.length_nil, ↓reduceIte, if_true, if_false, eq_self, and_true, true_and, and_self, Option.bind_some, Option.bind_none, Option.toList_some, Option.toList_none, List.cons_append, List.nil_append, mset_at, mset_ne, mset_2, mset_mset, Nat.reduceLT, Nat.reduceAdd, G_RD, y_well, nz1, eq_true h, h1]
  rw [hv]
end YREAD
def set1 {α : Type} (f : Nat → α) (k : Nat) (x : α) : Nat → α := fun j => if j = k then x else f j
theorem set1_at {α : Type} {f : Nat → α} {k : Nat} {x : α} : set1 f k x k = x := if_pos rfl
theorem set1_ne {α : Type} {f : Nat → α} {k j : Nat} {x : α} (h : j ≠ k) : set1 f k x j = f j := if_neg h
theorem setI_congr {f g : Nat → Nat} : ∀ n, (∀ i, i < n → f i = g i) → setI f n = setI g n
  | 0, _ => rfl
  | n + 1, h => by
    rw [setI, setI, setI_congr n (fun i hi => h i (by omega)), h n (by omega)]
/-- the class's draft in the world at w -/
def CD (A : Nat → Nat → Int32) (w : Nat) (lc : Nat → Nat) (lt : Nat → Nat → Nat) (nw nb : Nat) (fr to : Nat → Nat) (st : Nat → Int32) : Prop := CW A w lc lt ∧ A w 0 = nI nw ∧ BRc A w nb fr to ∧ A w 2 = st 0 ∧ A w 3 = st 1 ∧ A w 4 = st 2
/-- the model's -/
def MD (A : Nat → Nat → Int32) (lc : Nat → Nat) (lt : Nat → Nat → Nat) (nb : Nat) (fr to : Nat → Nat) (st : Nat → Int32) : Prop := (∀ k, k < 128 → A 62 (640 + 5 * k) = nI (lc k) ∧ ∀ i, i < lc k → A 62 (640 + 5 * k + 1 + i) = nI (lt k i)) ∧ (∀ j, j < nb → A 63 (20 + 2 * j) = nI (fr j) ∧ A 63 (21 + 2 * j) = nI (to j)) ∧ A 64 0 = st 0 ∧ A 64 1 = st 1 ∧ A 64 2 = st 2
/-- what holds of any draft -/
def DF (lc : Nat → Nat) (lt : Nat → Nat → Nat) (nw nb : Nat) (fr to : Nat → Nat) (st : Nat → Int32) : Prop := WF lc lt ∧ nw ≤ 60 ∧ BF nb fr to ∧ S16 (st 0) ∧ S16 (st 1) ∧ S16 (st 2)
/-- what reading leaves of the class, and of the model -/
def FC (w : Nat) (A A' : Nat → Nat → Int32) : Prop := ∀ k, k < 4 ∨ (7 < k ∧ (k < w ∨ w + 5 < k)) → A' k = A k
def FM (A A' : Nat → Nat → Int32) : Prop := (∀ k, k ≠ 62 → k ≠ 63 → k ≠ 64 → A' k = A k) ∧ (∀ j, j < 640 → A' 62 j = A 62 j) ∧ ∀ j, j < 20 → A' 63 j = A 63 j
theorem FC_rf {w : Nat} {A : Nat → Nat → Int32} : FC w A A := fun _ _ => rfl
theorem FM_rf {A : Nat → Nat → Int32} : FM A A := ⟨fun _ _ _ _ => rfl, fun _ _ => rfl, fun _ _ => rfl⟩
theorem FC_tr {w : Nat} {A B C : Nat → Nat → Int32} (h : FC w A B) (h' : FC w B C) : FC w A C := fun k hk => (h' k hk).trans (h k hk)
theorem FM_tr {A B C : Nat → Nat → Int32} (h : FM A B) (h' : FM B C) : FM A C := ⟨fun k a c d => (h'.1 k a c d).trans (h.1 k a c d), fun j hj => (h'.2.1 j hj).trans (h.2.1 j hj), fun j hj => (h'.2.2 j hj).trans (h.2.2 j hj)⟩
theorem FC_4 {w : Nat} {A A' : Nat → Nat → Int32} (h : ∀ k, k ≠ 4 → A' k = A k) : FC w A A' := fun k hk => h k (by omega)
theorem TX_FC {w n : Nat} {t : Nat → Nat} {A A' : Nat → Nat → Int32} (hw : w = 8 ∨ w = 19) (h : FC w A A') (hT : TX A n t) : TX A' n t := TX_of (fun k hk => h k (by omega)) (by rw [h 60 (by omega)]) hT
theorem TX_FM {n : Nat} {t : Nat → Nat} {A A' : Nat → Nat → Int32} (h : FM A A') (hT : TX A n t) : TX A' n t := TX_of (fun k hk => h.1 k (by omega) (by omega) (by omega)) (by rw [h.1 60 (by omega) (by omega) (by omega)]) hT
theorem TY_FM {n : Nat} {t : Nat → Nat} {A A' : Nat → Nat → Int32} (h : FM A A') (hT : TY A n t) : TY A' n t := TY_of (h.1 61 (by omega) (by omega) (by omega)) (by rw [h.1 60 (by omega) (by omega) (by omega)]) hT
theorem CD_of {A A' : Nat → Nat → Int32} {w : Nat} {lc : Nat → Nat} {lt : Nat → Nat → Nat} {nw nb : Nat} {fr to : Nat → Nat} {st : Nat → Int32} (h : ∀ k, w ≤ k → k ≤ w + 5 → A' k = A k) (hC : CD A w lc lt nw nb fr to st) : CD A' w lc lt nw nb fr to st := by
  obtain ⟨c1, c2, ⟨c3, c4⟩, c5, c6, c7⟩ := hC
  have e0 := h w (by omega) (by omega)
  refine ⟨fun k hk => ?_, by rw [e0]; exact c2, ⟨by rw [e0]; exact c3, fun j hj => ?_⟩, by rw [e0]; exact c5, by rw [e0]; exact c6, by rw [e0]; exact c7⟩
  · rw [h (w + 1) (by omega) (by omega), h (w + 2) (by omega) (by omega), h (w + 3) (by omega) (by omega)]
    exact c1 k hk
  · rw [h (w + 4) (by omega) (by omega), h (w + 5) (by omega) (by omega)]
    exact c4 j hj
