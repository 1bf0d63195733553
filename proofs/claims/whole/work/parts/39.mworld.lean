/-! THE MODEL'S WORLD: its methods; judges. -/
def bI (a : Bool) : Int32 := if a = true then 1 else 0
theorem bI_t : bI true = 1 := rfl
theorem bI_f : bI false = 0 := rfl
theorem bI_or1 (a : Bool) : bI a ||| 1 = bI true := by cases a <;> decide
theorem bI_or0 (a : Bool) : bI a ||| 0 = bI a := Int32.or_zero
theorem bI_or (a c : Bool) : bI a ||| bI c = bI (a || c) := by cases a <;> cases c <;> decide
theorem bI_or' (a c : Bool) : bI a ||| (if c = true then 1 else 0) = bI (a || c) := bI_or a c
theorem bI_01 (a : Bool) : (bI a = 0 ∨ bI a = 1) = True := eq_true (by cases a <;> decide)
theorem bI_eq0 (a : Bool) : (bI a = 0) = (a = false) := by cases a <;> decide
theorem anyF_0 {P : Nat → Bool} : anyF P 0 = false := rfl
theorem anyF_st {P : Nat → Bool} {n : Nat} (h : P n = true) : anyF P (n + 1) = true := by rw [anyF, h, Bool.or_true]
theorem anyF_sf {P : Nat → Bool} {n : Nat} (h : P n = false) : anyF P (n + 1) = anyF P n := by rw [anyF, h, Bool.or_false]
/-- bits taken away, those below n that P has not -/
def andF (P : Nat → Bool) : Nat → Int32 → Int32
  | 0, x => x
  | n + 1, x => andF P n x &&& (if P n = true then 65535 else bit n ^^^ -1)
theorem andF_s16 {P : Nat → Bool} {x : Int32} (h : S16 x) : ∀ n, S16 (andF P n x)
  | 0 => h
  | n + 1 => s16_and (andF_s16 h n)
theorem bi_andF {P : Nat → Bool} {x : Int32} {i : Nat} (hi : i < 16) : ∀ n, n ≤ 16 → bi (andF P n x) i = (bi x i && (decide (n ≤ i) || P i))
  | 0, _ => by rw [andF, decide_eq_true (by omega), Bool.true_or, Bool.and_true]
  | n + 1, hn => by
    have ih := bi_andF (P := P) (x := x) hi n (by omega)
    rw [andF, bi_and, ih, Bool.and_assoc]
    congr 1
    by_cases h : P n = true
    · rw [if_pos h, bi_65535, decide_eq_true hi, Bool.and_true]
      by_cases h1 : i = n
      · subst h1
        rw [h, Bool.or_true, Bool.or_true]
      · rw [show decide (n + 1 ≤ i) = decide (n ≤ i) from decide_eq_decide.2 (by omega)]
    · rw [if_neg h, bi_not (by omega), bi_bit (by omega) (by omega)]
      by_cases h1 : i = n
      · subst h1
        rw [Bool.eq_false_iff.2 h, decide_eq_true (p := i = i) rfl, decide_eq_false (p := i + 1 ≤ i) (by omega)]
        simp
      · rw [decide_eq_false h1, Bool.not_false, Bool.and_true, show decide (n + 1 ≤ i) = decide (n ≤ i) from decide_eq_decide.2 (by omega)]
theorem andF_thn {P : Nat → Bool} {x : Int32} (h : S16 x) : andF P 16 x = orF (fun s => bi x s && P s) 16 0 := by
  refine ext16 (andF_s16 h 16) (orF_s16 (by omega) s16_0) fun i hi => ?_
  rw [bi_andF hi 16 (by omega), bi_orF (by omega) (by omega), bi_0, Bool.false_or, decide_eq_true hi, Bool.true_and, decide_eq_false (by omega), Bool.false_or]
/-- the model's own numbers with broken and safe put in -/
def JG (A : Nat → Nat → Int32) (br S : Int32) : Nat → Nat → Int32 := up A 60 (fL [A 60 0, A 60 1, A 60 2, A 60 3, A 60 4, A 60 5, A 60 6, A 60 7, A 60 8, A 60 9, A 60 10, A 60 11, A 60 12, A 60 13, br, S])
theorem JG_60 {A : Nat → Nat → Int32} {br S : Int32} : JG A br S 60 = fL [A 60 0, A 60 1, A 60 2, A 60 3, A 60 4, A 60 5, A 60 6, A 60 7, A 60 8, A 60 9, A 60 10, A 60 11, A 60 12, A 60 13, br, S] := up_at
theorem JG_ne {A : Nat → Nat → Int32} {br S : Int32} {k : Nat} (h : k ≠ 60) : JG A br S k = A k := up_ne h
section MWORLD
variable {b : Nat} {u v : Int64} {A : Nat → Nat → Int32} {τ : Nat × Nat × Nat × (Nat → Int32)} {lc : Nat → Nat} {lt : Nat → Nat → Nat} {s d i r : Nat} {S br x y z : Int32} {σ : mS} {l1 l2 l3 l4 l5 l6 l7 l8 : Option Value}
theorem G_JG : (G b u v (JG A br S) τ).1 60 = some (.inr (8, [.int (A 60 0), .long v, .ref 61, .int (A 60 1), .int (A 60 2), .int (A 60 3), .int (A 60 4), .int (A 60 5), .int (A 60 6), .int (A 60 7), .ref 62, .int (A 60 8), .int (A 60 9), .int (A 60 10), .int (A 60 11), .ref 63, .int (A 60 12), .int (A 60 13), .ref 64, .int br, .int S, .ref 65, .ref 66, .ref 67, .ref 68, .ref 69, .ref 70, .ref 71, .ref 72])) := rfl
theorem S_JG : mset (G b u v (JG A br S) τ) 60 (.inr (8, [.int (A 60 0), .long v, .ref 61, .int (A 60 1), .int (A 60 2), .int (A 60 3), .int (A 60 4), .int (A 60 5), .int (A 60 6), .int (A 60 7), .ref 62, .int (A 60 8), .int (A 60 9), .int (A 60 10), .int (A 60 11), .ref 63, .int (A 60 12), .int (A 60 13), .ref 64, .int x, .int y, .ref 65, .ref 66, .ref 67, .ref 68, .ref 69, .ref 70, .ref 71, .ref 72])) = G b u v (JG A x y) τ := S_60.trans (congrArg (fun X => G b u v X τ) up_up)
theorem S_JG0 : mset (G b u v A τ) 60 (.inr (8, [.int (A 60 0), .long v, .ref 61, .int (A 60 1), .int (A 60 2), .int (A 60 3), .int (A 60 4), .int (A 60 5), .int (A 60 6), .int (A 60 7), .ref 62, .int (A 60 8), .int (A 60 9), .int (A 60 10), .int (A 60 11), .ref 63, .int (A 60 12), .int (A 60 13), .ref 64, .int x, .int y, .ref 65, .ref 66, .ref 67, .ref 68, .ref 69, .ref 70, .ref 71, .ref 72])) = G b u v (JG A x y) τ := S_60
theorem V_lots (hC : MW A lc lt) (hs : s < 16) (hd : d < 8) : evM 140 [.ref 60, .int (nI s), .int (nI d)] (G b u v A τ) = some (some (.int (nI (lc (s * 8 + d)))), (G b u v A τ)) := by
  have hk : A 62 (5 * (8 * s + d)) = nI (lc (s * 8 + d)) := by
    rw [show 8 * s + d = s * 8 + d from by omega]
    exact (hC (s * 8 + d) (by omega)).1
  simp (disch := first | omega | assumption | exact Nat.le_of_ble_eq_true rfl) only [m140, e140_0, e140_1, e140_4, e140_5, e140_7, e140_8, e140_9, e140_10, e140_11, e140_12, e140_13, Bool.false_eq_true, gfK, pfK, lnK, isC, alK_n, asK_n, List.getElem?_cons_zero, List.getElem?_cons_succ, List.set_cons_zero, List.set_cons_succ, List.length_cons, List.length_nil, ↓reduceIte, if_true, if_false, eq_self, and_true, true_and, and_self, Option.bind_some, Option.bind_none, Option.toList_some, Option.toList_none, List.cons_append, List.nil_append, mset_at, mset_ne, mset_2, mset_mset, Nat.reduceLT, Nat.reduceAdd, G_60, G_62, lm_8, nI_addN, lm_5, hk]
theorem V_lotOf (hC : MW A lc lt) (hW : WF lc lt) (hs : s < 16) (hd : d < 8) (hi : i < lc (s * 8 + d)) : evM 143 [.ref 60, .int (nI s), .int (nI d), .int (nI i)] (G b u v A τ) = some (some (.int (nI (lt (s * 8 + d) i))), (G b u v A τ)) := by
  have hk : A 62 (5 * (8 * s + d) + 1 + i) = nI (lt (s * 8 + d) i) := by
    rw [show 8 * s + d = s * 8 + d from by omega]
    exact (hC (s * 8 + d) (by omega)).2 i hi
  have h4 := (hW (s * 8 + d) (by omega)).1
  simp (disch := first | omega | assumption | exact Nat.le_of_ble_eq_true rfl) only [m143, e143_0, e143_1, e143_4, e143_5, e143_7, e143_8, e143_9, e143_10, e143_11, e143_12, e143_13, e143_14, e143_15, e143_16, e143_17, Bool.false_eq_true, gfK, pfK, lnK, isC, alK_n, asK_n, List.getElem?_cons_zero, List.getElem?_cons_succ, List.set_cons_zero, List.set_cons_succ, List.length_cons, List.length_nil, ↓reduceIte, if_true, if_false, eq_self, and_true, true_and, and_self, Option.bind_some, Option.bind_none, Option.toList_some, Option.toList_none, List.cons_append, List.nil_append, mset_at, mset_ne, mset_2, mset_mset, Nat.reduceLT, Nat.reduceAdd, G_60, G_62, lm_8, nI_addN, lm_5, ra_1, hk]
theorem V_lotSet_loop (hC : MW A lc lt) (hW : WF lc lt) (hs : s < 16) (hd : d < 8) : ∀ (n i : Nat), i + n = lc (s * 8 + d) → ev 142 5 [some (.ref 60), some (.int (nI s)), some (.int (nI d)), some (.int (setI (lt (s * 8 + d)) i)), some (.int (nI i))] [] (G b u v A τ) = some (some (.int (setI (lt (s * 8 + d)) (lc (s * 8 + d)))), (G b u v A τ))
  | 0, i, hi => by
    have h4 := (hW (s * 8 + d) (by omega)).1
    have hi : i = lc (s * 8 + d) := by omega
    rw [e142_5]
    simp (disch := first | omega | assumption | exact Nat.le_of_ble_eq_true rfl) only [m142, e142_0, e142_1i, e142_1n, e142_1r, e142_2, e142_3i, e142_3n, e142_3r, e142_7, e142_8, e142_9, e142_10, e142_13, e142_16, e142_17, e142_18, e142_19, e142_20, e142_21, e142_23, e142_26, e142_27, e142_28i, e142_28n, e142_28r, e142_29i, e142_29n, e142_29r, e142_32, e142_35, e142_36, Bool.false_eq_true, gfK, pfK, lnK, isC, alK_n, asK_n, List.getElem?_cons_zero, List.getElem?_cons_succ, List.set_cons_zero, List.set_cons_succ, List.length_cons, List.length_nil, ↓reduceIte, if_true, if_false, eq_self, and_true, true_and, and_self, Option.bind_some, Option.bind_none, Option.toList_some, Option.toList_none, List.cons_append, List.nil_append, mset_at, mset_ne, mset_2, mset_mset, Nat.reduceLT, Nat.reduceAdd, V_lots hC hs hd, nI_leI, Nat.le_refl, ← hi, G_60]
  | n + 1, i, hi => by
    have ih := V_lotSet_loop hC hW hs hd n (i + 1) (by omega)
    have h4 := (hW (s * 8 + d) (by omega)).1
    have h5 : ¬ lc (s * 8 + d) ≤ i := by omega
    rw [show setI (lt (s * 8 + d)) (i + 1) = setI (lt (s * 8 + d)) i ||| bit (lt (s * 8 + d) i) from rfl] at ih
    rw [e142_5]
    simp (disch := first | omega | assumption | exact Nat.le_of_ble_eq_true rfl) only [m142, e142_0, e142_1i, e142_1n, e142_1r, e142_2, e142_3i, e142_3n, e142_3r, e142_7, e142_8, e142_9, e142_10, e142_13, e142_16, e142_17, e142_18, e142_19, e142_20, e142_21, e142_23, e142_26, e142_27, e142_28i, e142_28n, e142_28r, e142_29i, e142_29n, e142_29r, e142_32, e142_35, e142_36, Bool.false_eq_true, gfK, pfK, lnK, isC, alK_n, asK_n, List.getElem?_cons_zero, List.getElem?_cons_succ, List.set_cons_zero, List.set_cons_succ, List.length_cons, List.length_nil, ↓reduceIte, if_true, if_false, eq_self, and_true, true_and, and_self, Option.bind_some, Option.bind_none, Option.toList_some, Option.toList_none, List.cons_append, List.nil_append, mset_at, mset_ne, mset_2, mset_mset, Nat.reduceLT, Nat.reduceAdd, V_lots hC hs hd, V_lotOf hC hW hs hd, nI_leI, h5, bit_def, nI_succ', ih, G_60]
theorem V_lotSet (hC : MW A lc lt) (hW : WF lc lt) (hs : s < 16) (hd : d < 8) : evM 142 [.ref 60, .int (nI s), .int (nI d)] (G b u v A τ) = some (some (.int (setI (lt (s * 8 + d)) (lc (s * 8 + d)))), (G b u v A τ)) := by
  have := V_lotSet_loop (b := b) (u := u) (v := v) (τ := τ) hC hW hs hd (lc (s * 8 + d)) 0 (by omega)
  rw [show setI (lt (s * 8 + d)) 0 = 0 from rfl, ← lit_0] at this
  simp (disch := first | omega | assumption | exact Nat.le_of_ble_eq_true rfl) only [m142, e142_0, e142_1i, e142_1n, e142_1r, e142_2, e142_3i, e142_3n, e142_3r, e142_7, e142_8, e142_9, e142_10, e142_13, e142_16, e142_17, e142_18, e142_19, e142_20, e142_21, e142_23, e142_26, e142_27, e142_28i, e142_28n, e142_28r, e142_29i, e142_29n, e142_29r, e142_32, e142_35, e142_36, Bool.false_eq_true, gfK, pfK, lnK, isC, alK_n, asK_n, List.getElem?_cons_zero, List.getElem?_cons_succ, List.set_cons_zero, List.set_cons_succ, List.length_cons, List.length_nil, ↓reduceIte, if_true, if_false, eq_self, and_true, true_and, and_self, Option.bind_some, Option.bind_none, Option.toList_some, Option.toList_none, List.cons_append, List.nil_append, mset_at, mset_ne, mset_2, mset_mset, Nat.reduceLT, Nat.reduceAdd, this, G_60]
theorem V_stays (hC : MW A lc lt) (hW : WF lc lt) (hs : s < 16) (hd : d < 8) : evM 141 [.ref 60, .int (nI s), .int (nI d), .int S] (G b u v A τ) = some (some (.int (bI (sty lc lt S (s * 8 + d)))), (G b u v A τ)) := by
  have h4 := (hW (s * 8 + d) (by omega)).1
  by_cases h0 : lc (s * 8 + d) = 0
  · have hP : sty lc lt S (s * 8 + d) = false := by unfold sty; rw [decide_eq_false (by omega), Bool.false_and]
    rw [hP]
    simp (disch := first | omega | assumption | exact Nat.le_of_ble_eq_true rfl) only [m141, e141_0, e141_1, e141_2, e141_3, e141_6, e141_9, e141_10, e141_11, e141_12, e141_15, e141_16, e141_17, e141_18, e141_19, e141_22, e141_23, e141_26, e141_27b0, e141_27b1, Bool.false_eq_true, gfK, pfK, lnK, isC, alK_n, asK_n, List.getElem?_cons_zero, List.getElem?_cons_succ, List.set_cons_zero, List.set_cons_succ, List.length_cons, List.length_nil, ↓reduceIte, if_true, if_false, eq_self, and_true, true_and, and_self, Option.bind_some, Option.bind_none, Option.toList_some, Option.toList_none, List.cons_append, List.nil_append, mset_at, mset_ne, mset_2, mset_mset, Nat.reduceLT, Nat.reduceAdd, V_lots hC hs hd, le0_nI, h0, bI_f, G_60]
  · by_cases h1 : setI (lt (s * 8 + d)) (lc (s * 8 + d)) &&& (S ^^^ -1) = 0
    · have hP : sty lc lt S (s * 8 + d) = true := by unfold sty; rw [decide_eq_true (p := 0 < lc (s * 8 + d)) (by omega), decide_eq_true h1]; rfl
      rw [hP]
      simp (disch := first | omega | assumption | exact Nat.le_of_ble_eq_true rfl) only [m141, e141_0, e141_1, e141_2, e141_3, e141_6, e141_9, e141_10, e141_11, e141_12, e141_15, e141_16, e141_17, e141_18, e141_19, e141_22, e141_23, e141_26, e141_27b0, e141_27b1, Bool.false_eq_true, gfK, pfK, lnK, isC, alK_n, asK_n, List.getElem?_cons_zero, List.getElem?_cons_succ, List.set_cons_zero, List.set_cons_succ, List.length_cons, List.length_nil, ↓reduceIte, if_true, if_false, eq_self, and_true, true_and, and_self, Option.bind_some, Option.bind_none, Option.toList_some, Option.toList_none, List.cons_append, List.nil_append, mset_at, mset_ne, mset_2, mset_mset, Nat.reduceLT, Nat.reduceAdd, V_lots hC hs hd, V_lotSet hC hW hs hd, le0_nI, h0, h1, bI_t, G_60]
    · have hP : sty lc lt S (s * 8 + d) = false := by unfold sty; rw [decide_eq_false h1, Bool.and_false]
      rw [hP]
      simp (disch := first | omega | assumption | exact Nat.le_of_ble_eq_true rfl) only [m141, e141_0, e141_1, e141_2, e141_3, e141_6, e141_9, e141_10, e141_11, e141_12, e141_15, e141_16, e141_17, e141_18, e141_19, e141_22, e141_23, e141_26, e141_27b0, e141_27b1, Bool.false_eq_true, gfK, pfK, lnK, isC, alK_n, asK_n, List.getElem?_cons_zero, List.getElem?_cons_succ, List.set_cons_zero, List.set_cons_succ, List.length_cons, List.length_nil, ↓reduceIte, if_true, if_false, eq_self, and_true, true_and, and_self, Option.bind_some, Option.bind_none, Option.toList_some, Option.toList_none, List.cons_append, List.nil_append, mset_at, mset_ne, mset_2, mset_mset, Nat.reduceLT, Nat.reduceAdd, V_lots hC hs hd, V_lotSet hC hW hs hd, le0_nI, h0, h1, bI_f, G_60]
theorem V_has_loop (hC : MW A lc lt) (hW : WF lc lt) (hs : s < 16) : ∀ (n d : Nat), d + n = 8 → ev 139 4 [some (.ref 60), some (.int (nI s)), some (.int (bI (anyF (fun d => decide (0 < lc (s * 8 + d))) d))), some (.int (nI d))] [] (G b u v A τ) = some (some (.int (bI (anyF (fun d => decide (0 < lc (s * 8 + d))) 8))), (G b u v A τ))
  | 0, d, hd => by
    have : d = 8 := by omega
    subst this
    rw [e139_4]
    simp (disch := first | omega | assumption | exact Nat.le_of_ble_eq_true rfl) only [m139, e139_0, e139_1i, e139_1n, e139_1r, e139_2, e139_3i, e139_3n, e139_3r, e139_5, e139_7, e139_10, e139_11, e139_12, e139_13, e139_14, e139_17, e139_20, e139_21, e139_24, e139_25, e139_26i, e139_26n, e139_26r, e139_27i, e139_27n, e139_27r, e139_30, e139_33, e139_34b0, e139_34b1, Bool.false_eq_true, gfK, pfK, lnK, isC, alK_n, asK_n, List.getElem?_cons_zero, List.getElem?_cons_succ, List.set_cons_zero, List.set_cons_succ, List.length_cons, List.length_nil, ↓reduceIte, if_true, if_false, eq_self, and_true, true_and, and_self, Option.bind_some, Option.bind_none, Option.toList_some, Option.toList_none, List.cons_append, List.nil_append, mset_at, mset_ne, mset_2, mset_mset, Nat.reduceLT, Nat.reduceAdd, le_8, Nat.le_refl, e139_34, bI_01, G_60]
  | n + 1, d, hd => by
    have ih := V_has_loop hC hW hs n (d + 1) (by omega)
    have h8 : ¬ 8 ≤ d := by omega
    have h4 := (hW (s * 8 + d) (by omega)).1
    rw [e139_4]
    by_cases h0 : lc (s * 8 + d) = 0
    · rw [anyF_sf (decide_eq_false (by omega))] at ih
      simp (disch := first | omega | assumption | exact Nat.le_of_ble_eq_true rfl) only [m139, e139_0, e139_1i, e139_1n, e139_1r, e139_2, e139_3i, e139_3n, e139_3r, e139_5, e139_7, e139_10, e139_11, e139_12, e139_13, e139_14, e139_17, e139_20, e139_21, e139_24, e139_25, e139_26i, e139_26n, e139_26r, e139_27i, e139_27n, e139_27r, e139_30, e139_33, e139_34b0, e139_34b1, Bool.false_eq_true, gfK, pfK, lnK, isC, alK_n, asK_n, List.getElem?_cons_zero, List.getElem?_cons_succ, List.set_cons_zero, List.set_cons_succ, List.length_cons, List.length_nil, ↓reduceIte, if_true, if_false, eq_self, and_true, true_and, and_self, Option.bind_some, Option.bind_none, Option.toList_some, Option.toList_none, List.cons_append, List.nil_append, mset_at, mset_ne, mset_2, mset_mset, Nat.reduceLT, Nat.reduceAdd, le_8, h8, V_lots hC hs, le0_nI, h0, bI_or0, nI_succ', ih, G_60]
    · rw [anyF_st (decide_eq_true (by omega))] at ih
      simp (disch := first | omega | assumption | exact Nat.le_of_ble_eq_true rfl) only [m139, e139_0, e139_1i, e139_1n, e139_1r, e139_2, e139_3i, e139_3n, e139_3r, e139_5, e139_7, e139_10, e139_11, e139_12, e139_13, e139_14, e139_17, e139_20, e139_21, e139_24, e139_25, e139_26i, e139_26n, e139_26r, e139_27i, e139_27n, e139_27r, e139_30, e139_33, e139_34b0, e139_34b1, Bool.false_eq_true, gfK, pfK, lnK, isC, alK_n, asK_n, List.getElem?_cons_zero, List.getElem?_cons_succ, List.set_cons_zero, List.set_cons_succ, List.length_cons, List.length_nil, ↓reduceIte, if_true, if_false, eq_self, and_true, true_and, and_self, Option.bind_some, Option.bind_none, Option.toList_some, Option.toList_none, List.cons_append, List.nil_append, mset_at, mset_ne, mset_2, mset_mset, Nat.reduceLT, Nat.reduceAdd, le_8, h8, V_lots hC hs, le0_nI, h0, bI_or1, nI_succ', ih, G_60]
theorem V_has (hC : MW A lc lt) (hW : WF lc lt) (hs : s < 16) : evM 139 [.ref 60, .int (nI s)] (G b u v A τ) = some (some (.int (bI (anyF (fun d => decide (0 < lc (s * 8 + d))) 8))), (G b u v A τ)) := by
  have := V_has_loop (b := b) (u := u) (v := v) (τ := τ) hC hW hs 8 0 rfl
  rw [anyF, ← lit_0, bI_f] at this
  simp (disch := first | omega | assumption | exact Nat.le_of_ble_eq_true rfl) only [m139, e139_0, e139_1i, e139_1n, e139_1r, e139_2, e139_3i, e139_3n, e139_3r, e139_5, e139_7, e139_10, e139_11, e139_12, e139_13, e139_14, e139_17, e139_20, e139_21, e139_24, e139_25, e139_26i, e139_26n, e139_26r, e139_27i, e139_27n, e139_27r, e139_30, e139_33, e139_34b0, e139_34b1, Bool.false_eq_true, gfK, pfK, lnK, isC, alK_n, asK_n, List.getElem?_cons_zero, List.getElem?_cons_succ, List.set_cons_zero, List.set_cons_succ, List.length_cons, List.length_nil, ↓reduceIte, if_true, if_false, eq_self, and_true, true_and, and_self, Option.bind_some, Option.bind_none, Option.toList_some, Option.toList_none, List.cons_append, List.nil_append, mset_at, mset_ne, mset_2, mset_mset, Nat.reduceLT, Nat.reduceAdd, this, G_60]
theorem V_brk_loop (hC : MW A lc lt) (hW : WF lc lt) : ∀ (n s : Nat), s + n = 16 → ev 138 10 [some (.ref 60), some (.int (nI s)), l2, l3, l4, l5, l6, l7, l8] [] (G b u v (JG A (orF (fun s => !bi (A 60 10) s && !anyF (fun d => decide (0 < lc (s * 8 + d))) 8) s x) S) τ) = ev 138 57 [some (.ref 60), some (.int (nI 16)), l2, l3, l4, l5, l6, l7, l8] [] (G b u v (JG A (brk lc (A 60 10) x) S) τ)
  | 0, s, hs => by
    have : s = 16 := by omega
    subst this
    rw [e138_10]
    simp (disch := first | omega | assumption | exact Nat.le_of_ble_eq_true rfl) only [m138, e138_11, e138_13, Bool.false_eq_true, gfK, pfK, lnK, isC, alK_n, asK_n, List.getElem?_cons_zero, List.getElem?_cons_succ, List.set_cons_zero, List.set_cons_succ, List.length_cons, List.length_nil, ↓reduceIte, if_true, if_false, eq_self, and_true, true_and, and_self, Option.bind_some, Option.bind_none, Option.toList_some, Option.toList_none, List.cons_append, List.nil_append, mset_at, mset_ne, mset_2, mset_mset, Nat.reduceLT, Nat.reduceAdd, le_16, Nat.le_refl, brk]
  | n + 1, s, hs => by
    have ih := V_brk_loop hC hW n (s + 1) (by omega)
    have h16 : ¬ 16 ≤ s := by omega
    have hs' : s < 16 := by omega
    have hh := fun br => V_has (b := b) (u := u) (v := v) (τ := τ) (A := JG A br S) (MW_up (by omega) hC) hW hs'
    rw [e138_10]
    by_cases h0 : anyF (fun d => decide (0 < lc (s * 8 + d))) 8 = true
    · rw [orF_f (by rw [h0, Bool.not_true, Bool.and_false])] at ih
      rw [h0] at hh
      simp (disch := first | omega | assumption | exact Nat.le_of_ble_eq_true rfl) only [m138, e138_11, e138_13, e138_16, e138_17i, e138_17r, e138_18, e138_21, e138_22, e138_23, e138_26, e138_29, e138_30, e138_33, e138_34, e138_35, e138_36, e138_37, e138_40, e138_41, e138_42, e138_43, e138_46, e138_47, e138_48, e138_51i, e138_51n, e138_51r, e138_54, Bool.false_eq_true, gfK, pfK, lnK, isC, alK_n, asK_n, List.getElem?_cons_zero, List.getElem?_cons_succ, List.set_cons_zero, List.set_cons_succ, List.length_cons, List.length_nil, ↓reduceIte, if_true, if_false, eq_self, and_true, true_and, and_self, Option.bind_some, Option.bind_none, Option.toList_some, Option.toList_none, List.cons_append, List.nil_append, mset_at, mset_ne, mset_2, mset_mset, Nat.reduceLT, Nat.reduceAdd, le_16, h16, G_JG, S_JG, hh, bI_t, nz1, Int32.or_zero, nI_succ', ih]
    · have h0' := Bool.eq_false_iff.2 h0
      rw [h0'] at hh
      by_cases h1 : bi (A 60 10) s = true
      · rw [orF_f (by rw [h1]; rfl)] at ih
        simp (disch := first | omega | assumption | exact Nat.le_of_ble_eq_true rfl) only [m138, e138_11, e138_13, e138_16, e138_17i, e138_17r, e138_18, e138_21, e138_22, e138_23, e138_26, e138_29, e138_30, e138_33, e138_34, e138_35, e138_36, e138_37, e138_40, e138_41, e138_42, e138_43, e138_46, e138_47, e138_48, e138_51i, e138_51n, e138_51r, e138_54, Bool.false_eq_true, gfK, pfK, lnK, isC, alK_n, asK_n, List.getElem?_cons_zero, List.getElem?_cons_succ, List.set_cons_zero, List.set_cons_succ, List.length_cons, List.length_nil, ↓reduceIte, if_true, if_false, eq_self, and_true, true_and, and_self, Option.bind_some, Option.bind_none, Option.toList_some, Option.toList_none, List.cons_append, List.nil_append, mset_at, mset_ne, mset_2, mset_mset, Nat.reduceLT, Nat.reduceAdd, le_16, h16, G_JG, S_JG, hh, bI_f, shr_0, h1, Bool.true_eq_false, Int32.or_zero, nI_succ', ih]
      · rw [orF_t (by rw [h0', Bool.eq_false_iff.2 h1]; rfl)] at ih
        simp (disch := first | omega | assumption | exact Nat.le_of_ble_eq_true rfl) only [m138, e138_11, e138_13, e138_16, e138_17i, e138_17r, e138_18, e138_21, e138_22, e138_23, e138_26, e138_29, e138_30, e138_33, e138_34, e138_35, e138_36, e138_37, e138_40, e138_41, e138_42, e138_43, e138_46, e138_47, e138_48, e138_51i, e138_51n, e138_51r, e138_54, Bool.false_eq_true, gfK, pfK, lnK, isC, alK_n, asK_n, List.getElem?_cons_zero, List.getElem?_cons_succ, List.set_cons_zero, List.set_cons_succ, List.length_cons, List.length_nil, ↓reduceIte, if_true, if_false, eq_self, and_true, true_and, and_self, Option.bind_some, Option.bind_none, Option.toList_some, Option.toList_none, List.cons_append, List.nil_append, mset_at, mset_ne, mset_2, mset_mset, Nat.reduceLT, Nat.reduceAdd, le_16, h16, G_JG, S_JG, hh, bI_f, shr_0, Bool.eq_false_iff.2 h1, bit_def, nI_succ', ih]
theorem V_stays_loop (hC : MW A lc lt) (hW : WF lc lt) (hs : s < 16) (c : Bool) : ∀ (n d : Nat), d + n = 8 → ev 138 114 [some (.ref 60), some (.int S), some (.int (nI s)), some (.int (bI (c || anyF (fun d => sty lc lt S (s * 8 + d)) d))), some (.int (nI d)), l5, l6, l7, l8] [] (G b u v A τ) = ev 138 138 [some (.ref 60), some (.int S), some (.int (nI s)), some (.int (bI (c || anyF (fun d => sty lc lt S (s * 8 + d)) 8))), some (.int (nI 8)), l5, l6, l7, l8] [] (G b u v A τ)
  | 0, d, hd => by
    have : d = 8 := by omega
    subst this
    rw [e138_114]
    simp (disch := first | omega | assumption | exact Nat.le_of_ble_eq_true rfl) only [m138, e138_116, e138_118, Bool.false_eq_true, gfK, pfK, lnK, isC, alK_n, asK_n, List.getElem?_cons_zero, List.getElem?_cons_succ, List.set_cons_zero, List.set_cons_succ, List.length_cons, List.length_nil, ↓reduceIte, if_true, if_false, eq_self, and_true, true_and, and_self, Option.bind_some, Option.bind_none, Option.toList_some, Option.toList_none, List.cons_append, List.nil_append, mset_at, mset_ne, mset_2, mset_mset, Nat.reduceLT, Nat.reduceAdd, le_8, Nat.le_refl]
  | n + 1, d, hd => by
    have ih := V_stays_loop hC hW hs c n (d + 1) (by omega)
    have h8 : ¬ 8 ≤ d := by omega
    rw [show anyF (fun d => sty lc lt S (s * 8 + d)) (d + 1) = (anyF (fun d => sty lc lt S (s * 8 + d)) d || sty lc lt S (s * 8 + d)) from rfl, ← Bool.or_assoc] at ih
    rw [e138_114]
    simp (disch := first | omega | assumption | exact Nat.le_of_ble_eq_true rfl) only [m138, e138_116, e138_118, e138_121, e138_122, e138_123, e138_124, e138_126, e138_127, e138_130, e138_131i, e138_131n, e138_131r, e138_132i, e138_132n, e138_132r, e138_135, Bool.false_eq_true, gfK, pfK, lnK, isC, alK_n, asK_n, List.getElem?_cons_zero, List.getElem?_cons_succ, List.set_cons_zero, List.set_cons_succ, List.length_cons, List.length_nil, ↓reduceIte, if_true, if_false, eq_self, and_true, true_and, and_self, Option.bind_some, Option.bind_none, Option.toList_some, Option.toList_none, List.cons_append, List.nil_append, mset_at, mset_ne, mset_2, mset_mset, Nat.reduceLT, Nat.reduceAdd, le_8, h8, G_60, V_stays hC hW hs, bI_or, nI_succ', ih]
theorem V_safe_in (hC : MW A lc lt) (hW : WF lc lt) (S : Int32) (l4' : Option Value) : ∀ (n s : Nat) (l3 l4 : Option Value), s + n = 16 → ∃ l3' l4', ev 138 87 [some (.ref 60), some (.int S), some (.int (nI s)), l3, l4, l5, l6, l7, l8] [] (G b u v (JG A br (andF (fun s => bi (A 60 10) s || anyF (fun d => sty lc lt S (s * 8 + d)) 8) s S)) τ) = ev 138 167 [some (.ref 60), some (.int S), some (.int (nI 16)), l3', l4', l5, l6, l7, l8] [] (G b u v (JG A br (andF (fun s => bi (A 60 10) s || anyF (fun d => sty lc lt S (s * 8 + d)) 8) 16 S)) τ)
  | 0, s, l3, l4, hs => by
    have : s = 16 := by omega
    subst this
    refine ⟨l3, l4, ?_⟩
    rw [e138_87]
    simp (disch := first | omega | assumption | exact Nat.le_of_ble_eq_true rfl) only [m138, e138_88, e138_90, Bool.false_eq_true, gfK, pfK, lnK, isC, alK_n, asK_n, List.getElem?_cons_zero, List.getElem?_cons_succ, List.set_cons_zero, List.set_cons_succ, List.length_cons, List.length_nil, ↓reduceIte, if_true, if_false, eq_self, and_true, true_and, and_self, Option.bind_some, Option.bind_none, Option.toList_some, Option.toList_none, List.cons_append, List.nil_append, mset_at, mset_ne, mset_2, mset_mset, Nat.reduceLT, Nat.reduceAdd, le_16, Nat.le_refl]
  | n + 1, s, l3, l4, hs => by
    have h16 : ¬ 16 ≤ s := by omega
    have hs' : s < 16 := by omega
    obtain ⟨P, hP⟩ : ∃ P : Nat → Bool, P = fun s => bi (A 60 10) s || anyF (fun d => sty lc lt S (s * 8 + d)) 8 := ⟨_, rfl⟩
    obtain ⟨l3', l4'', ih⟩ := V_safe_in hC hW S l4' n (s + 1) (some (.int (bI (P s)))) (some (.int (nI 8))) (by omega)
    refine ⟨l3', l4'', ?_⟩
    have hl := fun S' => V_stays_loop (b := b) (u := u) (v := v) (τ := τ) (A := JG A br S') (S := S) (l5 := l5) (l6 := l6) (l7 := l7) (l8 := l8) (MW_up (by omega) hC) hW hs' (bi (A 60 10) s) 8 0 rfl
    rw [anyF_0, Bool.or_false] at hl
    rw [← hP] at ih ⊢
    rw [show andF P (s + 1) S = andF P s S &&& (if P s = true then 65535 else bit s ^^^ -1) from rfl] at ih
    have hPs : P s = (bi (A 60 10) s || anyF (fun d => sty lc lt S (s * 8 + d)) 8) := by rw [hP]
    rw [← hPs, ← lit_0] at hl
    rw [e138_87]
    by_cases h0 : bi (A 60 10) s = true
    · have h1 : P s = true := by rw [hPs, h0]; rfl
      rw [h0, bI_t] at hl
      rw [h1, if_pos rfl, bI_t] at ih
      rw [h1] at hl
      simp (disch := first | omega | assumption | exact Nat.le_of_ble_eq_true rfl) only [m138, e138_88, e138_90, e138_93, e138_94, e138_97, e138_98, e138_99, e138_100, e138_101, e138_102, e138_105, e138_106, e138_109, e138_110i, e138_110n, e138_110r, e138_111, e138_112i, e138_112n, e138_112r, e138_116, e138_118, e138_121, e138_122, e138_123, e138_124, e138_126, e138_127, e138_130, e138_131i, e138_131n, e138_131r, e138_132i, e138_132n, e138_132r, e138_135, e138_138, e138_139i, e138_139r, e138_140, e138_143, e138_144, e138_147, e138_149, e138_152, e138_153, e138_154, e138_155, e138_156, e138_157, e138_158, e138_161i, e138_161n, e138_161r, e138_164, Bool.false_eq_true, gfK, pfK, lnK, isC, alK_n, asK_n, List.getElem?_cons_zero, List.getElem?_cons_succ, List.set_cons_zero, List.set_cons_succ, List.length_cons, List.length_nil, ↓reduceIte, if_true, if_false, eq_self, and_true, true_and, and_self, Option.bind_some, Option.bind_none, Option.toList_some, Option.toList_none, List.cons_append, List.nil_append, mset_at, mset_ne, mset_2, mset_mset, Nat.reduceLT, Nat.reduceAdd, le_16, h16, G_JG, S_JG, shr_1, h0, hl, bI_t, nz1, nI_succ', ih]
    · have h0' := Bool.eq_false_iff.2 h0
      rw [h0', bI_f] at hl
      by_cases h1 : P s = true
      · rw [h1, if_pos rfl, bI_t] at ih
        rw [h1] at hl
        simp (disch := first | omega | assumption | exact Nat.le_of_ble_eq_true rfl) only [m138, e138_88, e138_90, e138_93, e138_94, e138_97, e138_98, e138_99, e138_100, e138_101, e138_102, e138_105, e138_106, e138_109, e138_110i, e138_110n, e138_110r, e138_111, e138_112i, e138_112n, e138_112r, e138_116, e138_118, e138_121, e138_122, e138_123, e138_124, e138_126, e138_127, e138_130, e138_131i, e138_131n, e138_131r, e138_132i, e138_132n, e138_132r, e138_135, e138_138, e138_139i, e138_139r, e138_140, e138_143, e138_144, e138_147, e138_149, e138_152, e138_153, e138_154, e138_155, e138_156, e138_157, e138_158, e138_161i, e138_161n, e138_161r, e138_164, Bool.false_eq_true, gfK, pfK, lnK, isC, alK_n, asK_n, List.getElem?_cons_zero, List.getElem?_cons_succ, List.set_cons_zero, List.set_cons_succ, List.length_cons, List.length_nil, ↓reduceIte, if_true, if_false, eq_self, and_true, true_and, and_self, Option.bind_some, Option.bind_none, Option.toList_some, Option.toList_none, List.cons_append, List.nil_append, mset_at, mset_ne, mset_2, mset_mset, Nat.reduceLT, Nat.reduceAdd, le_16, h16, G_JG, S_JG, shr_1, h0, hl, bI_t, nz1, nI_succ', ih]
      · rw [Bool.eq_false_iff.2 h1, if_neg Bool.false_ne_true, bI_f] at ih
        rw [Bool.eq_false_iff.2 h1] at hl
        simp (disch := first | omega | assumption | exact Nat.le_of_ble_eq_true rfl) only [m138, e138_88, e138_90, e138_93, e138_94, e138_97, e138_98, e138_99, e138_100, e138_101, e138_102, e138_105, e138_106, e138_109, e138_110i, e138_110n, e138_110r, e138_111, e138_112i, e138_112n, e138_112r, e138_116, e138_118, e138_121, e138_122, e138_123, e138_124, e138_126, e138_127, e138_130, e138_131i, e138_131n, e138_131r, e138_132i, e138_132n, e138_132r, e138_135, e138_138, e138_139i, e138_139r, e138_140, e138_143, e138_144, e138_147, e138_149, e138_152, e138_153, e138_154, e138_155, e138_156, e138_157, e138_158, e138_161i, e138_161n, e138_161r, e138_164, Bool.false_eq_true, gfK, pfK, lnK, isC, alK_n, asK_n, List.getElem?_cons_zero, List.getElem?_cons_succ, List.set_cons_zero, List.set_cons_succ, List.length_cons, List.length_nil, ↓reduceIte, if_true, if_false, eq_self, and_true, true_and, and_self, Option.bind_some, Option.bind_none, Option.toList_some, Option.toList_none, List.cons_append, List.nil_append, mset_at, mset_ne, mset_2, mset_mset, Nat.reduceLT, Nat.reduceAdd, le_16, h16, G_JG, S_JG, shr_1, h0, hl, bI_f, bit_def, nI_succ', ih]
theorem thn_le {rest : Int32} {i : Nat} (hi : i < 16) (h : bi (thn lc lt rest S) i = true) : bi S i = true := by
  unfold thn at h
  rw [bi_orF (by omega) (by omega), bi_0, Bool.false_or, decide_eq_true hi, Bool.true_and, Bool.and_eq_true] at h
  exact h.1
theorem itr_fix {α : Type} {f : α → α} {x : α} (h : f x = x) : ∀ n, itr f n x = x
  | 0 => rfl
  | n + 1 => by rw [itr, h, itr_fix h n]
theorem cnt_lt {P Q : Nat → Bool} : ∀ n, (∀ i, i < n → P i = true → Q i = true) → (∃ i, i < n ∧ P i = false ∧ Q i = true) → cntF P n < cntF Q n
  | 0, _, ⟨i, hi, _⟩ => absurd hi (Nat.not_lt_zero i)
  | n + 1, h, ⟨i, hi, h1, h2⟩ => by
    rw [cntF, cntF]
    by_cases hin : i = n
    · subst hin
      have hle : cntF P i ≤ cntF Q i := by
        clear h1 h2 hi
        have : ∀ m, m ≤ i → cntF P m ≤ cntF Q m := by
          intro m
          induction m with
          | zero => intro _; exact Nat.le_refl 0
          | succ m ih =>
            intro hm
            have := ih (by omega)
            rw [cntF, cntF]
            by_cases hp : P m = true
            · rw [if_pos hp, if_pos (h m (by omega) hp)]
              omega
            · rw [if_neg hp]
              split <;> omega
        exact this i (Nat.le_refl i)
      rw [h1, h2, if_neg Bool.false_ne_true, if_pos rfl]
      omega
    · have ih := cnt_lt n (fun j hj => h j (by omega)) ⟨i, by omega, h1, h2⟩
      by_cases hp : P n = true
      · rw [if_pos hp, if_pos (h n (by omega) hp)]
        omega
      · rw [if_neg hp]
        split <;> omega
theorem thn_cnt {rest : Int32} (hS : S16 S) (h : ¬ thn lc lt rest S = S) : cntF (bi (thn lc lt rest S)) 16 < cntF (bi S) 16 := by
  refine cnt_lt 16 (fun i hi g => thn_le hi g) (Classical.byContradiction fun g => h (ext16 thn_s16 hS fun i hi => ?_))
  by_cases h1 : bi (thn lc lt rest S) i = true
  · rw [h1, thn_le hi h1]
  · by_cases h2 : bi S i = true
    · exact absurd ⟨i, hi, Bool.eq_false_iff.2 h1, h2⟩ g
    · rw [Bool.eq_false_iff.2 h1, Bool.eq_false_iff.2 h2]
theorem V_safe_loop (hC : MW A lc lt) (hW : WF lc lt) : ∀ (n : Nat) (S y : Int32) (l2 l3 l4 : Option Value), S16 S → cntF (bi S) 16 ≤ n → (y = S → thn lc lt (A 60 10) S = S) → ∃ y' l2' l3' l4', ev 138 72 [some (.ref 60), some (.int y), l2, l3, l4, l5, l6, l7, l8] [] (G b u v (JG A br S) τ) = ev 138 170 [some (.ref 60), some (.int y'), l2', l3', l4', l5, l6, l7, l8] [] (G b u v (JG A br (itr (thn lc lt (A 60 10)) n S)) τ) := by
  have hstep : ∀ (S y : Int32) (l2 l3 l4 : Option Value), S16 S → ¬ y = S → ∃ l2' l3' l4', ev 138 72 [some (.ref 60), some (.int y), l2, l3, l4, l5, l6, l7, l8] [] (G b u v (JG A br S) τ) = ev 138 72 [some (.ref 60), some (.int S), l2', l3', l4', l5, l6, l7, l8] [] (G b u v (JG A br (thn lc lt (A 60 10) S)) τ) := by
    intro S y l2 l3 l4 hS hy
    obtain ⟨l3', l4', h⟩ := V_safe_in (b := b) (u := u) (v := v) (τ := τ) (br := br) (l5 := l5) (l6 := l6) (l7 := l7) (l8 := l8) hC hW S none 16 0 l3 l4 rfl
    rw [andF_thn hS, show andF (fun s => bi (A 60 10) s || anyF (fun d => sty lc lt S (s * 8 + d)) 8) 0 S = S from rfl, ← lit_0] at h
    refine ⟨some (.int (nI 16)), l3', l4', ?_⟩
    rw [e138_72]
    cases l2 with
    | none => simp (disch := first | omega | assumption | exact Nat.le_of_ble_eq_true rfl) only [m138, e138_73, e138_74, e138_77, e138_80, e138_81, e138_84i, e138_84n, e138_84r, e138_85, e138_86i, e138_86n, e138_86r, Bool.false_eq_true, gfK, pfK, lnK, isC, alK_n, asK_n, List.getElem?_cons_zero, List.getElem?_cons_succ, List.set_cons_zero, List.set_cons_succ, List.length_cons, List.length_nil, ↓reduceIte, if_true, if_false, eq_self, and_true, true_and, and_self, Option.bind_some, Option.bind_none, Option.toList_some, Option.toList_none, List.cons_append, List.nil_append, mset_at, mset_ne, mset_2, mset_mset, Nat.reduceLT, Nat.reduceAdd, G_JG, hy, h, e138_167, thn]
    | some q => simp (disch := first | omega | assumption | exact Nat.le_of_ble_eq_true rfl) only [m138, e138_73, e138_74, e138_77, e138_80, e138_81, e138_84i, e138_84n, e138_84r, e138_85, e138_86i, e138_86n, e138_86r, Bool.false_eq_true, gfK, pfK, lnK, isC, alK_n, asK_n, List.getElem?_cons_zero, List.getElem?_cons_succ, List.set_cons_zero, List.set_cons_succ, List.length_cons, List.length_nil, ↓reduceIte, if_true, if_false, eq_self, and_true, true_and, and_self, Option.bind_some, Option.bind_none, Option.toList_some, Option.toList_none, List.cons_append, List.nil_append, mset_at, mset_ne, mset_2, mset_mset, Nat.reduceLT, Nat.reduceAdd, G_JG, hy, h, e138_167, thn]
  have hend : ∀ (S : Int32) (l2 l3 l4 : Option Value), ev 138 72 [some (.ref 60), some (.int S), l2, l3, l4, l5, l6, l7, l8] [] (G b u v (JG A br S) τ) = ev 138 170 [some (.ref 60), some (.int S), l2, l3, l4, l5, l6, l7, l8] [] (G b u v (JG A br S) τ) := by
    intro S l2 l3 l4
    rw [e138_72]
    simp (disch := first | omega | assumption | exact Nat.le_of_ble_eq_true rfl) only [m138, e138_73, e138_74, e138_77, Bool.false_eq_true, gfK, pfK, lnK, isC, alK_n, asK_n, List.getElem?_cons_zero, List.getElem?_cons_succ, List.set_cons_zero, List.set_cons_succ, List.length_cons, List.length_nil, ↓reduceIte, if_true, if_false, eq_self, and_true, true_and, and_self, Option.bind_some, Option.bind_none, Option.toList_some, Option.toList_none, List.cons_append, List.nil_append, mset_at, mset_ne, mset_2, mset_mset, Nat.reduceLT, Nat.reduceAdd, G_JG]
  intro n
  induction n with
  | zero =>
    intro S y l2 l3 l4 hS hn hy
    have hf : thn lc lt (A 60 10) S = S := by
      by_cases h : thn lc lt (A 60 10) S = S
      · exact h
      · have := thn_cnt hS h
        omega
    by_cases h : y = S
    · subst h
      exact ⟨y, l2, l3, l4, hend y l2 l3 l4⟩
    · obtain ⟨l2', l3', l4', h1⟩ := hstep S y l2 l3 l4 hS h
      rw [hf] at h1
      exact ⟨S, l2', l3', l4', h1.trans (hend S l2' l3' l4')⟩
  | succ n ih =>
    intro S y l2 l3 l4 hS hn hy
    by_cases h : y = S
    · subst h
      rw [itr_fix (hy rfl)]
      exact ⟨y, l2, l3, l4, hend y l2 l3 l4⟩
    · obtain ⟨l2', l3', l4', h1⟩ := hstep S y l2 l3 l4 hS h
      by_cases hf : thn lc lt (A 60 10) S = S
      · rw [itr_fix hf]
        rw [hf] at h1
        exact ⟨S, l2', l3', l4', h1.trans (hend S l2' l3' l4')⟩
      · have hc := thn_cnt hS hf
        obtain ⟨y'', m2, m3, m4, h2⟩ := ih (thn lc lt (A 60 10) S) S l2' l3' l4' thn_s16 (by omega) (fun g => absurd g.symm hf)
        exact ⟨y'', m2, m3, m4, h1.trans h2⟩
end MWORLD
