/-! THE MODEL'S TOKENS: one at a time, by place. -/
/-- the model's reading: next, token, place, value, fault, ways and bars of the draft -/
def RD (A : Nat → Nat → Int32) (nx tk pl va fa dw db : Int32) : Nat → Nat → Int32 := up A 60 (fL [A 60 0, A 60 1, nx, tk, pl, va, fa, A 60 7, A 60 8, A 60 9, A 60 10, A 60 11, dw, db, A 60 14, A 60 15])
/-- the model holds the text (the class's own length may be another): of TX's shape -/
def TY (A : Nat → Nat → Int32) (n : Nat) (t : Nat → Nat) : Prop := n ≤ 600 ∧ True ∧ A 60 1 = nI n ∧ (∀ i, t i < 256) ∧ ∀ i, i < n → True ∧ A 61 i = nI (t i)
theorem TY_TX {A : Nat → Nat → Int32} {n : Nat} {t : Nat → Nat} (h : TX A n t) : TY A n t := ⟨h.1, trivial, h.2.2.1, h.2.2.2.1, fun i hi => ⟨trivial, (h.2.2.2.2 i hi).2⟩⟩
theorem TY_of {A A' : Nat → Nat → Int32} {n : Nat} {t : Nat → Nat} (h : A' 61 = A 61) (h1 : A' 60 1 = A 60 1) (hT : TY A n t) : TY A' n t := ⟨hT.1, trivial, by rw [h1]; exact hT.2.2.1, hT.2.2.2.1, fun i hi => ⟨trivial, by rw [h]; exact (hT.2.2.2.2 i hi).2⟩⟩
def nL (n : Nat) : Int64 := Int64.ofNat n
theorem RD_ne {A : Nat → Nat → Int32} {nx tk pl va fa dw db : Int32} {k : Nat} (h : k ≠ 60) : RD A nx tk pl va fa dw db k = A k := up_ne h
theorem RD_60 {A : Nat → Nat → Int32} {nx tk pl va fa dw db : Int32} : RD A nx tk pl va fa dw db 60 = fL [A 60 0, A 60 1, nx, tk, pl, va, fa, A 60 7, A 60 8, A 60 9, A 60 10, A 60 11, dw, db, A 60 14, A 60 15] := up_at
theorem RD_up {A : Nat → Nat → Int32} {nx tk pl va fa dw db : Int32} {k : Nat} {f : Nat → Int32} (h : k ≠ 60) : up (RD A nx tk pl va fa dw db) k f = RD (up A k f) nx tk pl va fa dw db := by
  unfold RD
  rw [up_swap (by omega), up_ne (by omega)]
theorem nL_i (c : Nat) (h : c < 256) : (nI c).toInt64 = nL c := (by decide +kernel : ∀ c, c < 256 → (nI c).toInt64 = nL c) c h
theorem nL_inj {a c : Nat} (h : a < 2 ^ 62) (h' : c < 2 ^ 62) (e : nL a = nL c) : a = c := by
  have h1 := congrArg Int64.toInt e
  unfold nL at h1
  rw [Int64.toInt_ofNat_of_lt (by omega), Int64.toInt_ofNat_of_lt (by omega)] at h1
  omega
def ad (x c : Nat) : Nat := if c = 0 then x else 256 * x + c
/-- the token at p, as the model tells it -/
def MTk (t : Nat → Nat) (n p : Nat) (tk va : Int32) : Prop := tk = (if tS t n p = 0 then 0 else if tS t n p = 1 then 3 else if tS t n p = 2 then 2 else if tS t n p ≤ 6 then 1 else if tS t n p ≤ 8 then 4 else 5) ∧ (tS t n p = 1 ∨ tS t n p = 2 → va = nI (tV t n p)) ∧ (3 ≤ tS t n p → tS t n p ≤ 6 → va = nI (tS t n p - 3)) ∧ (tS t n p = 7 → va = 62) ∧ (tS t n p = 8 → va = 59)
section YADV
variable {b : Nat} {u v : Int64} {A : Nat → Nat → Int32} {τ : Nat × Nat × Nat × (Nat → Int32)} {n : Nat} {t : Nat → Nat} {i j p e c k q : Nat} {x y z nx tk pl va fa dw db x2 x3 x4 x5 x6 x12 x13 : Int32} {σ : mS} {l1 l2 l3 l4 l5 : Option Value}
theorem G_RD : (G b u v (RD A nx tk pl va fa dw db) τ).1 60 = some (.inr (8, [.int (A 60 0), .long v, .ref 61, .int (A 60 1), .int nx, .int tk, .int pl, .int va, .int fa, .int (A 60 7), .ref 62, .int (A 60 8), .int (A 60 9), .int (A 60 10), .int (A 60 11), .ref 63, .int dw, .int db, .ref 64, .int (A 60 14), .int (A 60 15), .ref 65, .ref 66, .ref 67, .ref 68, .ref 69, .ref 70, .ref 71, .ref 72])) := rfl
theorem S_RD : mset (G b u v (RD A nx tk pl va fa dw db) τ) 60 (.inr (8, [.int (A 60 0), .long v, .ref 61, .int (A 60 1), .int x2, .int x3, .int x4, .int x5, .int x6, .int (A 60 7), .ref 62, .int (A 60 8), .int (A 60 9), .int (A 60 10), .int (A 60 11), .ref 63, .int x12, .int x13, .ref 64, .int (A 60 14), .int (A 60 15), .ref 65, .ref 66, .ref 67, .ref 68, .ref 69, .ref 70, .ref 71, .ref 72])) = G b u v (RD A x2 x3 x4 x5 x6 x12 x13) τ := S_60.trans (congrArg (fun X => G b u v X τ) up_up)
theorem y_byteAt (hT : TY A n t) (hi : i < 2147483648) : evM 149 [.ref 60, .int (nI i)] (G b u v (RD A nx tk pl va fa dw db) τ) = some (some (.int (byA t n i)), G b u v (RD A nx tk pl va fa dw db) τ) := by
  obtain ⟨h1, h2, h3, h4, h5⟩ := hT
  have e61 : (G b u v (RD A nx tk pl va fa dw db) τ).1 61 = some (.inl (0, 600, A 61)) := rfl
  by_cases h : i < n
  · have h6 := (h5 i h).2
    rw [byA_lt h]
    simp (disch := first | omega | assumption | exact Nat.le_of_ble_eq_true rfl) only [m149, e149_0, e149_1, e149_2, e149_5, e149_8, e149_9, e149_12, e149_13, e149_14, e149_17, e149_18, Bool.false_eq_true, Bool.true_eq_false, gfK, pfK, lnK, isC, alK_n, asK_n, List.getElem?_cons_zero, List.getElem?_cons_succ, List.set_cons_zero, List.set_cons_succ, List.length_cons, List.length_nil, ↓reduceIte, if_true, if_false, eq_self, and_true, true_and, and_self, Option.bind_some, Option.bind_none, Option.toList_some, Option.toList_none, List.cons_append, List.nil_append, mset_at, mset_ne, mset_2, mset_mset, Nat.reduceLT, Nat.reduceAdd, G_RD, e61, h3, nI_leI, show ¬ n ≤ i from by omega, h6]
  · rw [byA_ge h]
    simp (disch := first | omega | assumption | exact Nat.le_of_ble_eq_true rfl) only [m149, e149_0, e149_1, e149_2, e149_5, e149_8, e149_9, e149_12, e149_13, e149_14, e149_17, e149_18, Bool.false_eq_true, Bool.true_eq_false, gfK, pfK, lnK, isC, alK_n, asK_n, List.getElem?_cons_zero, List.getElem?_cons_succ, List.set_cons_zero, List.set_cons_succ, List.length_cons, List.length_nil, ↓reduceIte, if_true, if_false, eq_self, and_true, true_and, and_self, Option.bind_some, Option.bind_none, Option.toList_some, Option.toList_none, List.cons_append, List.nil_append, mset_at, mset_ne, mset_2, mset_mset, Nat.reduceLT, Nat.reduceAdd, G_RD, e61, h3, nI_leI, show n ≤ i from by omega]
theorem y_inD (ht : ∀ i, t i < 256) : evM 145 [.int (byA t n i), .int 48, .int 57] σ = some (some (.int (bI (dg t n i))), σ) := by
  have h0 := ht i
  by_cases h : i < n
  · rw [byA_lt h]
    by_cases h1 : t i < 48
    · rw [show dg t n i = false from decide_eq_false (by omega)]
      simp (disch := first | omega | assumption | exact Nat.le_of_ble_eq_true rfl) only [m145, e145_0, e145_1, e145_2, e145_5, e145_6, e145_7, e145_10, e145_11, e145_14, e145_15b0, e145_15b1, Bool.false_eq_true, Bool.true_eq_false, gfK, pfK, lnK, isC, alK_n, asK_n, List.getElem?_cons_zero, List.getElem?_cons_succ, List.set_cons_zero, List.set_cons_succ, List.length_cons, List.length_nil, ↓reduceIte, if_true, if_false, eq_self, and_true, true_and, and_self, Option.bind_some, Option.bind_none, Option.toList_some, Option.toList_none, List.cons_append, List.nil_append, mset_at, mset_ne, mset_2, mset_mset, Nat.reduceLT, Nat.reduceAdd, lt_48, h1, bI_f]
    · by_cases h2 : 57 < t i
      · rw [show dg t n i = false from decide_eq_false (by omega)]
        simp (disch := first | omega | assumption | exact Nat.le_of_ble_eq_true rfl) only [m145, e145_0, e145_1, e145_2, e145_5, e145_6, e145_7, e145_10, e145_11, e145_14, e145_15b0, e145_15b1, Bool.false_eq_true, Bool.true_eq_false, gfK, pfK, lnK, isC, alK_n, asK_n, List.getElem?_cons_zero, List.getElem?_cons_succ, List.set_cons_zero, List.set_cons_succ, List.length_cons, List.length_nil, ↓reduceIte, if_true, if_false, eq_self, and_true, true_and, and_self, Option.bind_some, Option.bind_none, Option.toList_some, Option.toList_none, List.cons_append, List.nil_append, mset_at, mset_ne, mset_2, mset_mset, Nat.reduceLT, Nat.reduceAdd, lt_48, h1, gt_57, h2, bI_f]
      · rw [show dg t n i = true from decide_eq_true (by omega)]
        simp (disch := first | omega | assumption | exact Nat.le_of_ble_eq_true rfl) only [m145, e145_0, e145_1, e145_2, e145_5, e145_6, e145_7, e145_10, e145_11, e145_14, e145_15b0, e145_15b1, Bool.false_eq_true, Bool.true_eq_false, gfK, pfK, lnK, isC, alK_n, asK_n, List.getElem?_cons_zero, List.getElem?_cons_succ, List.set_cons_zero, List.set_cons_succ, List.length_cons, List.length_nil, ↓reduceIte, if_true, if_false, eq_self, and_true, true_and, and_self, Option.bind_some, Option.bind_none, Option.toList_some, Option.toList_none, List.cons_append, List.nil_append, mset_at, mset_ne, mset_2, mset_mset, Nat.reduceLT, Nat.reduceAdd, lt_48, h1, gt_57, h2, bI_t]
  · rw [byA_ge h, show dg t n i = false from decide_eq_false (by omega)]
    simp (disch := first | omega | assumption | exact Nat.le_of_ble_eq_true rfl) only [m145, e145_0, e145_1, e145_2, e145_5, e145_6, e145_7, e145_10, e145_11, e145_14, e145_15b0, e145_15b1, Bool.false_eq_true, Bool.true_eq_false, gfK, pfK, lnK, isC, alK_n, asK_n, List.getElem?_cons_zero, List.getElem?_cons_succ, List.set_cons_zero, List.set_cons_succ, List.length_cons, List.length_nil, ↓reduceIte, if_true, if_false, eq_self, and_true, true_and, and_self, Option.bind_some, Option.bind_none, Option.toList_some, Option.toList_none, List.cons_append, List.nil_append, mset_at, mset_ne, mset_2, mset_mset, Nat.reduceLT, Nat.reduceAdd, show (-1 : Int32) < 48 from by decide, bI_f]
theorem y_inL (ht : ∀ i, t i < 256) : evM 145 [.int (byA t n i), .int 97, .int 122] σ = some (some (.int (bI (lr t n i))), σ) := by
  have h0 := ht i
  by_cases h : i < n
  · rw [byA_lt h]
    by_cases h1 : t i < 97
    · rw [show lr t n i = false from decide_eq_false (by omega)]
      simp (disch := first | omega | assumption | exact Nat.le_of_ble_eq_true rfl) only [m145, e145_0, e145_1, e145_2, e145_5, e145_6, e145_7, e145_10, e145_11, e145_14, e145_15b0, e145_15b1, Bool.false_eq_true, Bool.true_eq_false, gfK, pfK, lnK, isC, alK_n, asK_n, List.getElem?_cons_zero, List.getElem?_cons_succ, List.set_cons_zero, List.set_cons_succ, List.length_cons, List.length_nil, ↓reduceIte, if_true, if_false, eq_self, and_true, true_and, and_self, Option.bind_some, Option.bind_none, Option.toList_some, Option.toList_none, List.cons_append, List.nil_append, mset_at, mset_ne, mset_2, mset_mset, Nat.reduceLT, Nat.reduceAdd, lt_97, h1, bI_f]
    · by_cases h2 : 122 < t i
      · rw [show lr t n i = false from decide_eq_false (by omega)]
        simp (disch := first | omega | assumption | exact Nat.le_of_ble_eq_true rfl) only [m145, e145_0, e145_1, e145_2, e145_5, e145_6, e145_7, e145_10, e145_11, e145_14, e145_15b0, e145_15b1, Bool.false_eq_true, Bool.true_eq_false, gfK, pfK, lnK, isC, alK_n, asK_n, List.getElem?_cons_zero, List.getElem?_cons_succ, List.set_cons_zero, List.set_cons_succ, List.length_cons, List.length_nil, ↓reduceIte, if_true, if_false, eq_self, and_true, true_and, and_self, Option.bind_some, Option.bind_none, Option.toList_some, Option.toList_none, List.cons_append, List.nil_append, mset_at, mset_ne, mset_2, mset_mset, Nat.reduceLT, Nat.reduceAdd, lt_97, h1, gt_122, h2, bI_f]
      · rw [show lr t n i = true from decide_eq_true (by omega)]
        simp (disch := first | omega | assumption | exact Nat.le_of_ble_eq_true rfl) only [m145, e145_0, e145_1, e145_2, e145_5, e145_6, e145_7, e145_10, e145_11, e145_14, e145_15b0, e145_15b1, Bool.false_eq_true, Bool.true_eq_false, gfK, pfK, lnK, isC, alK_n, asK_n, List.getElem?_cons_zero, List.getElem?_cons_succ, List.set_cons_zero, List.set_cons_succ, List.length_cons, List.length_nil, ↓reduceIte, if_true, if_false, eq_self, and_true, true_and, and_self, Option.bind_some, Option.bind_none, Option.toList_some, Option.toList_none, List.cons_append, List.nil_append, mset_at, mset_ne, mset_2, mset_mset, Nat.reduceLT, Nat.reduceAdd, lt_97, h1, gt_122, h2, bI_t]
  · rw [byA_ge h, show lr t n i = false from decide_eq_false (by omega)]
    simp (disch := first | omega | assumption | exact Nat.le_of_ble_eq_true rfl) only [m145, e145_0, e145_1, e145_2, e145_5, e145_6, e145_7, e145_10, e145_11, e145_14, e145_15b0, e145_15b1, Bool.false_eq_true, Bool.true_eq_false, gfK, pfK, lnK, isC, alK_n, asK_n, List.getElem?_cons_zero, List.getElem?_cons_succ, List.set_cons_zero, List.set_cons_succ, List.length_cons, List.length_nil, ↓reduceIte, if_true, if_false, eq_self, and_true, true_and, and_self, Option.bind_some, Option.bind_none, Option.toList_some, Option.toList_none, List.cons_append, List.nil_append, mset_at, mset_ne, mset_2, mset_mset, Nat.reduceLT, Nat.reduceAdd, show (-1 : Int32) < 97 from by decide, bI_f]
theorem y_add {a : Nat} (hc : c < 256) : evM 150 [.long (nL a), .int (nI c)] σ = some (some (.long (nL (ad a c))), σ) := by
  unfold ad
  by_cases h : c = 0
  · rw [if_pos h, h]
    have : nI 0 = 0 := rfl
    simp (disch := first | omega | assumption | exact Nat.le_of_ble_eq_true rfl) only [m150, e150_0, e150_1, e150_4, e150_5, e150_8, e150_11, e150_12, e150_13, e150_14, e150_15, e150_16, Bool.false_eq_true, Bool.true_eq_false, gfK, pfK, lnK, isC, alK_n, asK_n, List.getElem?_cons_zero, List.getElem?_cons_succ, List.set_cons_zero, List.set_cons_succ, List.length_cons, List.length_nil, ↓reduceIte, if_true, if_false, eq_self, and_true, true_and, and_self, Option.bind_some, Option.bind_none, Option.toList_some, Option.toList_none, List.cons_append, List.nil_append, mset_at, mset_ne, mset_2, mset_mset, Nat.reduceLT, Nat.reduceAdd, this]
  · rw [if_neg h]
    have h1 : ¬ nI c = 0 := fun q => h (nI_inj (by omega) (by decide) q)
    have h2 : (256 : Int64) * nL a + nL c = nL (256 * a + c) := by
      unfold nL
      rw [Int64.ofNat_add, Int64.ofNat_mul]
      rfl
    simp (disch := first | omega | assumption | exact Nat.le_of_ble_eq_true rfl) only [m150, e150_0, e150_1, e150_4, e150_5, e150_8, e150_11, e150_12, e150_13, e150_14, e150_15, e150_16, Bool.false_eq_true, Bool.true_eq_false, gfK, pfK, lnK, isC, alK_n, asK_n, List.getElem?_cons_zero, List.getElem?_cons_succ, List.set_cons_zero, List.set_cons_succ, List.length_cons, List.length_nil, ↓reduceIte, if_true, if_false, eq_self, and_true, true_and, and_self, Option.bind_some, Option.bind_none, Option.toList_some, Option.toList_none, List.cons_append, List.nil_append, mset_at, mset_ne, mset_2, mset_mset, Nat.reduceLT, Nat.reduceAdd, h1, nL_i c hc, h2]
theorem y_word {a0 a1 a2 a3 a4 : Nat} (h0 : a0 < 256) (h1 : a1 < 256) (h2 : a2 < 256) (h3 : a3 < 256) (h4 : a4 < 256) : evM 151 [.int (nI a0), .int (nI a1), .int (nI a2), .int (nI a3), .int (nI a4)] σ = some (some (.long (nL (ad (ad (ad (ad (ad 0 a0) a1) a2) a3) a4))), σ) := by
  have e0 : evM 150 [.long 0, .int (nI a0)] σ = some (some (.long (nL (ad 0 a0))), σ) := y_add h0
  simp (disch := first | omega | assumption | exact Nat.le_of_ble_eq_true rfl) only [m151, e151_0, e151_1, e151_2, e151_5, e151_6, e151_9, e151_10, e151_13, e151_14, e151_17, e151_19, e151_22, Bool.false_eq_true, Bool.true_eq_false, gfK, pfK, lnK, isC, alK_n, asK_n, List.getElem?_cons_zero, List.getElem?_cons_succ, List.set_cons_zero, List.set_cons_succ, List.length_cons, List.length_nil, ↓reduceIte, if_true, if_false, eq_self, and_true, true_and, and_self, Option.bind_some, Option.bind_none, Option.toList_some, Option.toList_none, List.cons_append, List.nil_append, mset_at, mset_ne, mset_2, mset_mset, Nat.reduceLT, Nat.reduceAdd, e0, y_add h1, y_add h2, y_add h3, y_add h4]
theorem y_never : evM 151 [.int 110, .int 101, .int 118, .int 101, .int 114] σ = some (some (.long (nL 474148660594)), σ) := y_word (a0 := 110) (a1 := 101) (a2 := 118) (a3 := 101) (a4 := 114) (by omega) (by omega) (by omega) (by omega) (by omega)
theorem y_goal : evM 151 [.int 103, .int 111, .int 97, .int 108, .int 0] σ = some (some (.long (nL 1735352684)), σ) := y_word (a0 := 103) (a1 := 111) (a2 := 97) (a3 := 108) (a4 := 0) (by omega) (by omega) (by omega) (by omega) (by omega)
theorem y_rest : evM 151 [.int 114, .int 101, .int 115, .int 116, .int 0] σ = some (some (.long (nL 1919251316)), σ) := y_word (a0 := 114) (a1 := 101) (a2 := 115) (a3 := 116) (a4 := 0) (by omega) (by omega) (by omega) (by omega) (by omega)
theorem y_bar : evM 151 [.int 98, .int 97, .int 114, .int 0, .int 0] σ = some (some (.long (nL 6447474)), σ) := y_word (a0 := 98) (a1 := 97) (a2 := 114) (a3 := 0) (a4 := 0) (by omega) (by omega) (by omega) (by omega) (by omega)
theorem y_cmp {a c : Nat} (h : a < 2 ^ 62) (h' : c < 2 ^ 62) : (lg_cmp (nL a) (nL c) = 0) = (a = c) := propext ⟨fun q => nL_inj h h' ((lg_cmp_eq _ _).1 q), fun q => (lg_cmp_eq _ _).2 (by rw [q])⟩
theorem y_sp_loop (hT : TY A n t) : ∀ (f q : Nat), q + f = n → ev 148 0 [some (.ref 60), l1, l2, l3, l4] [] (G b u v (RD A (nI q) tk pl va fa dw db) τ) = ev 148 26 [some (.ref 60), l1, l2, l3, l4] [] (G b u v (RD A (nI (sk t n q)) tk pl va fa dw db) τ)
  | 0, q, hq => by
    have h9 := hT.1
    have : q = n := by omega
    subst this
    have hb : ¬ byA t q q = 32 := by rw [byA_ge (by omega)]; decide
    rw [sk_n, e148_0]
    simp (disch := first | omega | assumption | exact Nat.le_of_ble_eq_true rfl) only [m148, e148_1, e148_2, e148_5, e148_8, e148_10, e148_13, e148_14i, e148_14r, e148_15, e148_18, e148_19, e148_20, e148_23, Bool.false_eq_true, Bool.true_eq_false, gfK, pfK, lnK, isC, alK_n, asK_n, List.getElem?_cons_zero, List.getElem?_cons_succ, List.set_cons_zero, List.set_cons_succ, List.length_cons, List.length_nil, ↓reduceIte, if_true, if_false, eq_self, and_true, true_and, and_self, Option.bind_some, Option.bind_none, Option.toList_some, Option.toList_none, List.cons_append, List.nil_append, mset_at, mset_ne, mset_2, mset_mset, Nat.reduceLT, Nat.reduceAdd, G_RD, y_byteAt hT, hb]
  | f + 1, q, hq => by
    have h9 := hT.1
    have ih := y_sp_loop hT f (q + 1) (by omega)
    have htq := hT.2.2.2.1 q
    rw [e148_0]
    by_cases h : t q = 32
    · have hb : byA t n q = 32 := by rw [byA_lt (by omega), h]; rfl
      rw [show sk t n (q + 1) = sk t n q from (rn_t (P := sp t n) (sp_t.2 ⟨by omega, h⟩) (by omega)).symm] at ih
      simp (disch := first | omega | assumption | exact Nat.le_of_ble_eq_true rfl) only [m148, e148_1, e148_2, e148_5, e148_8, e148_10, e148_13, e148_14i, e148_14r, e148_15, e148_18, e148_19, e148_20, e148_23, Bool.false_eq_true, Bool.true_eq_false, gfK, pfK, lnK, isC, alK_n, asK_n, List.getElem?_cons_zero, List.getElem?_cons_succ, List.set_cons_zero, List.set_cons_succ, List.length_cons, List.length_nil, ↓reduceIte, if_true, if_false, eq_self, and_true, true_and, and_self, Option.bind_some, Option.bind_none, Option.toList_some, Option.toList_none, List.cons_append, List.nil_append, mset_at, mset_ne, mset_2, mset_mset, Nat.reduceLT, Nat.reduceAdd, G_RD, S_RD, y_byteAt hT, eq_true hb, nI_succ', ih]
    · have hb : ¬ byA t n q = 32 := by
        rw [byA_lt (by omega), eq_32 (by omega)]
        exact h
      rw [sk_id (decide_eq_false (by omega))]
      simp (disch := first | omega | assumption | exact Nat.le_of_ble_eq_true rfl) only [m148, e148_1, e148_2, e148_5, e148_8, e148_10, e148_13, e148_14i, e148_14r, e148_15, e148_18, e148_19, e148_20, e148_23, Bool.false_eq_true, Bool.true_eq_false, gfK, pfK, lnK, isC, alK_n, asK_n, List.getElem?_cons_zero, List.getElem?_cons_succ, List.set_cons_zero, List.set_cons_succ, List.length_cons, List.length_nil, ↓reduceIte, if_true, if_false, eq_self, and_true, true_and, and_self, Option.bind_some, Option.bind_none, Option.toList_some, Option.toList_none, List.cons_append, List.nil_append, mset_at, mset_ne, mset_2, mset_mset, Nat.reduceLT, Nat.reduceAdd, G_RD, S_RD, y_byteAt hT, hb]
theorem y_word_loop (hT : TY A n t) (hl : lr t n p = true) : ∀ (f k : Nat), p + k + f = ed t n p → ev 148 71 [some (.ref 60), some (.int x), some (.long (nL (pkl t p k))), none, some (.int (nI k))] [] (G b u v (RD A (nI (p + k)) tk pl va fa dw db) τ) = ev 148 128 [some (.ref 60), some (.int x), some (.long (nL (pkl t p (ed t n p - p)))), none, some (.int (nI (ed t n p - p)))] [] (G b u v (RD A (nI (ed t n p)) tk pl va fa dw db) τ)
  | 0, k, hk => by
    have h9 := hT.1
    have hp := lr_t.1 hl
    have he := ed_le (t := t) (n := n) (p := p) (by omega)
    have hd : ¬ dg t n p = true := fun q => by rw [dg_lr q] at hl; exact Bool.false_ne_true hl
    have ho : lr t n (ed t n p) = false := by
      unfold ed
      rw [if_pos hp.1, if_neg hd, if_pos hl]
      exact rn_out lr_n
    have e1 : p + k = ed t n p := by omega
    have e2 : ed t n p - p = k := by omega
    rw [e1, e2, e148_71]
    simp (disch := first | omega | assumption | exact Nat.le_of_ble_eq_true rfl) only [m148, e148_72, e148_73, e148_76, e148_79, e148_81, e148_83, e148_86, Bool.false_eq_true, Bool.true_eq_false, gfK, pfK, lnK, isC, alK_n, asK_n, List.getElem?_cons_zero, List.getElem?_cons_succ, List.set_cons_zero, List.set_cons_succ, List.length_cons, List.length_nil, ↓reduceIte, if_true, if_false, eq_self, and_true, true_and, and_self, Option.bind_some, Option.bind_none, Option.toList_some, Option.toList_none, List.cons_append, List.nil_append, mset_at, mset_ne, mset_2, mset_mset, Nat.reduceLT, Nat.reduceAdd, G_RD, y_byteAt hT, y_inL hT.2.2.2.1, ho, bI_f]
  | f + 1, k, hk => by
    have h9 := hT.1
    have hp := lr_t.1 hl
    have he := ed_le (t := t) (n := n) (p := p) (by omega)
    have ih := y_word_loop hT hl f (k + 1) (by omega)
    have hc := ed_lr hl (show p ≤ p + k by omega) (by omega)
    have h1 : lr t n (p + k) = true := lr_t.2 ⟨by omega, hc⟩
    have h2 := hT.2.2.2.1 (p + k)
    have hb := byA_lt (t := t) (n := n) (i := p + k) (by omega)
    rw [← Nat.add_assoc] at ih
    rw [e148_71]
    by_cases h5 : k < 5
    · rw [show pkl t p (k + 1) = ad (pkl t p k) (t (p + k)) from by rw [pkl, if_pos h5]; unfold ad; rw [if_neg (by omega)]] at ih
      have hle : ¬ (5 : Int32) ≤ nI k := fun q => by have := (nI_leI (a := 5) (b := k) (by decide) (by omega)).1 q; omega
      have ha := fun σ => y_add (σ := σ) (a := pkl t p k) h2
      rw [← hb] at ha
      simp (disch := first | omega | assumption | exact Nat.le_of_ble_eq_true rfl) only [m148, e148_72, e148_73, e148_76, e148_79, e148_81, e148_83, e148_86, e148_89, e148_91, e148_92, e148_95, e148_96, e148_97, e148_98, e148_101, e148_104, e148_107, e148_110, e148_111i, e148_111n, e148_111r, e148_112i, e148_112n, e148_112r, e148_115, e148_116i, e148_116r, e148_117, e148_120, e148_121, e148_122, e148_125, Bool.false_eq_true, Bool.true_eq_false, gfK, pfK, lnK, isC, alK_n, asK_n, List.getElem?_cons_zero, List.getElem?_cons_succ, List.set_cons_zero, List.set_cons_succ, List.length_cons, List.length_nil, ↓reduceIte, if_true, if_false, eq_self, and_true, true_and, and_self, Option.bind_some, Option.bind_none, Option.toList_some, Option.toList_none, List.cons_append, List.nil_append, mset_at, mset_ne, mset_2, mset_mset, Nat.reduceLT, Nat.reduceAdd, G_RD, S_RD, y_byteAt hT, y_inL hT.2.2.2.1, h1, bI_t, nz1, hle, ha, nI_succ', ih]
    · rw [show pkl t p (k + 1) = pkl t p k from by rw [pkl, if_neg h5]] at ih
      have hle : (5 : Int32) ≤ nI k := (nI_leI (a := 5) (b := k) (by decide) (by omega)).2 (by omega)
      simp (disch := first | omega | assumption | exact Nat.le_of_ble_eq_true rfl) only [m148, e148_72, e148_73, e148_76, e148_79, e148_81, e148_83, e148_86, e148_89, e148_91, e148_92, e148_95, e148_96, e148_97, e148_98, e148_101, e148_104, e148_107, e148_110, e148_111i, e148_111n, e148_111r, e148_112i, e148_112n, e148_112r, e148_115, e148_116i, e148_116r, e148_117, e148_120, e148_121, e148_122, e148_125, Bool.false_eq_true, Bool.true_eq_false, gfK, pfK, lnK, isC, alK_n, asK_n, List.getElem?_cons_zero, List.getElem?_cons_succ, List.set_cons_zero, List.set_cons_succ, List.length_cons, List.length_nil, ↓reduceIte, if_true, if_false, eq_self, and_true, true_and, and_self, Option.bind_some, Option.bind_none, Option.toList_some, Option.toList_none, List.cons_append, List.nil_append, mset_at, mset_ne, mset_2, mset_mset, Nat.reduceLT, Nat.reduceAdd, G_RD, S_RD, y_byteAt hT, y_inL hT.2.2.2.1, h1, bI_t, nz1, hle, nI_succ', ih]
theorem y_num_loop (hT : TY A n t) (hl : dg t n p = true) : ∀ (f k : Nat), p + k + f = ed t n p → ev 148 293 [some (.ref 60), some (.int x), some (.int (nI k)), l3, l4] [] (G b u v (RD A (nI (p + k)) tk pl (nI (mvl t p k)) fa dw db) τ) = ev 148 361 [some (.ref 60), some (.int x), some (.int (nI (ed t n p - p))), l3, l4] [] (G b u v (RD A (nI (ed t n p)) tk pl (nI (mvl t p (ed t n p - p))) fa dw db) τ)
  | 0, k, hk => by
    have h9 := hT.1
    have hp := dg_t.1 hl
    have he := ed_le (t := t) (n := n) (p := p) (by omega)
    have ho : dg t n (ed t n p) = false := by
      unfold ed
      rw [if_pos hp.1, if_pos hl]
      exact rn_out dg_n
    have e1 : p + k = ed t n p := by omega
    have e2 : ed t n p - p = k := by omega
    rw [e1, e2, e148_293]
    simp (disch := first | omega | assumption | exact Nat.le_of_ble_eq_true rfl) only [m148, e148_294, e148_295, e148_298, e148_301, e148_303, e148_305, e148_308, Bool.false_eq_true, Bool.true_eq_false, gfK, pfK, lnK, isC, alK_n, asK_n, List.getElem?_cons_zero, List.getElem?_cons_succ, List.set_cons_zero, List.set_cons_succ, List.length_cons, List.length_nil, ↓reduceIte, if_true, if_false, eq_self, and_true, true_and, and_self, Option.bind_some, Option.bind_none, Option.toList_some, Option.toList_none, List.cons_append, List.nil_append, mset_at, mset_ne, mset_2, mset_mset, Nat.reduceLT, Nat.reduceAdd, G_RD, y_byteAt hT, y_inD hT.2.2.2.1, ho, bI_f]
  | f + 1, k, hk => by
    have h9 := hT.1
    have hp := dg_t.1 hl
    have he := ed_le (t := t) (n := n) (p := p) (by omega)
    have ih := y_num_loop hT hl f (k + 1) (by omega)
    have hc := ed_dg hl (show p ≤ p + k by omega) (by omega)
    have h1 : dg t n (p + k) = true := dg_t.2 ⟨by omega, hc⟩
    have hb := byA_lt (t := t) (n := n) (i := p + k) (by omega)
    rw [← Nat.add_assoc] at ih
    rw [e148_293]
    by_cases h5 : k < 3
    · rw [show mvl t p (k + 1) = 10 * mvl t p k + t (p + k) - 48 from by rw [mvl, if_pos h5]] at ih
      have hle : ¬ (3 : Int32) ≤ nI k := fun q => by have := (nI_leI (a := 3) (b := k) (by decide) (by omega)).1 q; omega
      have e1 : (10 : Int32) * nI (mvl t p k) + byA t n (p + k) - 48 = nI (10 * mvl t p k + t (p + k) - 48) := by
        rw [hb, lit_10, nI_mulN, nI_addN, lit_48, pk_sub (by omega)]
      simp (disch := first | omega | assumption | exact Nat.le_of_ble_eq_true rfl) only [m148, e148_294, e148_295, e148_298, e148_301, e148_303, e148_305, e148_308, e148_311, e148_312, e148_313, e148_314, e148_317, e148_319, e148_320, e148_323, e148_324, e148_325, e148_326, e148_329, e148_332, e148_333, e148_335, e148_336, e148_339, e148_342, e148_345i, e148_345n, e148_345r, e148_348, e148_349i, e148_349r, e148_350, e148_353, e148_354, e148_355, e148_358, Bool.false_eq_true, Bool.true_eq_false, gfK, pfK, lnK, isC, alK_n, asK_n, List.getElem?_cons_zero, List.getElem?_cons_succ, List.set_cons_zero, List.set_cons_succ, List.length_cons, List.length_nil, ↓reduceIte, if_true, if_false, eq_self, and_true, true_and, and_self, Option.bind_some, Option.bind_none, Option.toList_some, Option.toList_none, List.cons_append, List.nil_append, mset_at, mset_ne, mset_2, mset_mset, Nat.reduceLT, Nat.reduceAdd, G_RD, S_RD, y_byteAt hT, y_inD hT.2.2.2.1, h1, bI_t, nz1, hle, e1, nI_succ', ih]
    · rw [show mvl t p (k + 1) = 1000 from by rw [mvl, if_neg h5], show nI 1000 = 1000 from rfl] at ih
      have hle : (3 : Int32) ≤ nI k := (nI_leI (a := 3) (b := k) (by decide) (by omega)).2 (by omega)
      simp (disch := first | omega | assumption | exact Nat.le_of_ble_eq_true rfl) only [m148, e148_294, e148_295, e148_298, e148_301, e148_303, e148_305, e148_308, e148_311, e148_312, e148_313, e148_314, e148_317, e148_319, e148_320, e148_323, e148_324, e148_325, e148_326, e148_329, e148_332, e148_333, e148_335, e148_336, e148_339, e148_342, e148_345i, e148_345n, e148_345r, e148_348, e148_349i, e148_349r, e148_350, e148_353, e148_354, e148_355, e148_358, Bool.false_eq_true, Bool.true_eq_false, gfK, pfK, lnK, isC, alK_n, asK_n, List.getElem?_cons_zero, List.getElem?_cons_succ, List.set_cons_zero, List.set_cons_succ, List.length_cons, List.length_nil, ↓reduceIte, if_true, if_false, eq_self, and_true, true_and, and_self, Option.bind_some, Option.bind_none, Option.toList_some, Option.toList_none, List.cons_append, List.nil_append, mset_at, mset_ne, mset_2, mset_mset, Nat.reduceLT, Nat.reduceAdd, G_RD, S_RD, y_byteAt hT, y_inD hT.2.2.2.1, h1, bI_t, nz1, hle, nI_succ', ih]
end YADV
