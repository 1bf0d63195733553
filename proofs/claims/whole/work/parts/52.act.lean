/-! CALL act: pieces. -/
section ACT
variable {b : Nat} {u v : Int64} {A : Nat → Nat → Int32} {τ : Nat × Nat × Nat × (Nat → Int32)} {lc : Nat → Nat} {lt : Nat → Nat → Nat} {m t d q l k i : Nat} {x y z w : Int32} {σ : mS} {l10 : Option Value} {pr kd : Nat → Nat} {Lm Lk : List Nat}
variable {tick kept : Int32} {mr ar lr nr : Nat} {mf af lf nf st : Nat → Int32}
/-- whether a kind wants a yes -/
def askP (k : Nat) : Bool := decide (k = 2) || decide (k = 3)
theorem R_needsYes (hk : ∀ d, d < 8 → A 58 d = nI (kd d)) (hk5 : kd d ≤ 5) (hd : d < 8) : evM 113 [.ref 0, .int (nI d)] (BS b u v A τ tick kept mr mf ar af lr lf nr nf) = some (some (.int (bI (askP (kd d)))), (BS b u v A τ tick kept mr mf ar af lr lf nr nf)) := by
  have h := R_kindOf (b := b) (u := u) (v := v) (τ := τ) (tick := tick) (kept := kept) (mr := mr) (mf := mf) (ar := ar) (af := af) (lr := lr) (lf := lf) (nr := nr) (nf := nf) hk hd
  unfold askP
  by_cases h2 : kd d = 2
  · have e : (nI (kd d) = 2) = True := eq_true (by rw [h2]; rfl)
    rw [decide_eq_true h2, Bool.true_or]
    simp (disch := first | omega | assumption | exact Nat.le_of_ble_eq_true rfl) only [m113, e113_0, e113_1, e113_2, e113_5, e113_6, e113_9, e113_10, e113_11, e113_14, e113_15, e113_18, e113_19, e113_22, e113_23b0, e113_23b1, Bool.false_eq_true, Bool.true_eq_false, gfK, pfK, lnK, isC, alK_n, asK_n, List.getElem?_cons_zero, List.getElem?_cons_succ, List.set_cons_zero, List.set_cons_succ, List.length_cons, List.length_nil, ↓reduceIte, if_true, if_false, eq_self, and_true, true_and, and_self, Option.bind_some, Option.bind_none, Option.toList_some, Option.toList_none, List.cons_append, List.nil_append, mset_at, mset_ne, mset_2, mset_mset, Nat.reduceLT, Nat.reduceAdd, B_0, h, e, bI_t]
  · have e : (nI (kd d) = 2) = False := eq_false (fun g => h2 (nI_inj (by omega) (by decide) g))
    rw [decide_eq_false h2, Bool.false_or]
    by_cases h3 : kd d = 3
    · have e3 : (nI (kd d) = 3) = True := eq_true (by rw [h3]; rfl)
      rw [decide_eq_true h3]
      simp (disch := first | omega | assumption | exact Nat.le_of_ble_eq_true rfl) only [m113, e113_0, e113_1, e113_2, e113_5, e113_6, e113_9, e113_10, e113_11, e113_14, e113_15, e113_18, e113_19, e113_22, e113_23b0, e113_23b1, Bool.false_eq_true, Bool.true_eq_false, gfK, pfK, lnK, isC, alK_n, asK_n, List.getElem?_cons_zero, List.getElem?_cons_succ, List.set_cons_zero, List.set_cons_succ, List.length_cons, List.length_nil, ↓reduceIte, if_true, if_false, eq_self, and_true, true_and, and_self, Option.bind_some, Option.bind_none, Option.toList_some, Option.toList_none, List.cons_append, List.nil_append, mset_at, mset_ne, mset_2, mset_mset, Nat.reduceLT, Nat.reduceAdd, B_0, h, e, e3, bI_t]
    · have e3 : (nI (kd d) = 3) = False := eq_false (fun g => h3 (nI_inj (by omega) (by decide) g))
      rw [decide_eq_false h3]
      simp (disch := first | omega | assumption | exact Nat.le_of_ble_eq_true rfl) only [m113, e113_0, e113_1, e113_2, e113_5, e113_6, e113_9, e113_10, e113_11, e113_14, e113_15, e113_18, e113_19, e113_22, e113_23b0, e113_23b1, Bool.false_eq_true, Bool.true_eq_false, gfK, pfK, lnK, isC, alK_n, asK_n, List.getElem?_cons_zero, List.getElem?_cons_succ, List.set_cons_zero, List.set_cons_succ, List.length_cons, List.length_nil, ↓reduceIte, if_true, if_false, eq_self, and_true, true_and, and_self, Option.bind_some, Option.bind_none, Option.toList_some, Option.toList_none, List.cons_append, List.nil_append, mset_at, mset_ne, mset_2, mset_mset, Nat.reduceLT, Nat.reduceAdd, B_0, h, e, e3, bI_f]
theorem V_isAsked {n : Nat} (hn : n ≤ 5) : evM 193 [.int (nI n)] σ = some (some (.int (bI (askP n))), σ) := by
  unfold askP
  by_cases h2 : n = 2
  · have e : (nI n = 2) = True := eq_true (by rw [h2]; rfl)
    rw [decide_eq_true h2, Bool.true_or]
    simp (disch := first | omega | assumption | exact Nat.le_of_ble_eq_true rfl) only [m193, e193_0, e193_1, e193_2, e193_5, e193_6, e193_7, e193_10, e193_11, e193_14, e193_15b0, e193_15b1, Bool.false_eq_true, Bool.true_eq_false, gfK, pfK, lnK, isC, alK_n, asK_n, List.getElem?_cons_zero, List.getElem?_cons_succ, List.set_cons_zero, List.set_cons_succ, List.length_cons, List.length_nil, ↓reduceIte, if_true, if_false, eq_self, and_true, true_and, and_self, Option.bind_some, Option.bind_none, Option.toList_some, Option.toList_none, List.cons_append, List.nil_append, mset_at, mset_ne, mset_2, mset_mset, Nat.reduceLT, Nat.reduceAdd, e, bI_t]
  · have e : (nI n = 2) = False := eq_false (fun g => h2 (nI_inj (by omega) (by decide) g))
    rw [decide_eq_false h2, Bool.false_or]
    by_cases h3 : n = 3
    · have e3 : (nI n = 3) = True := eq_true (by rw [h3]; rfl)
      rw [decide_eq_true h3]
      simp (disch := first | omega | assumption | exact Nat.le_of_ble_eq_true rfl) only [m193, e193_0, e193_1, e193_2, e193_5, e193_6, e193_7, e193_10, e193_11, e193_14, e193_15b0, e193_15b1, Bool.false_eq_true, Bool.true_eq_false, gfK, pfK, lnK, isC, alK_n, asK_n, List.getElem?_cons_zero, List.getElem?_cons_succ, List.set_cons_zero, List.set_cons_succ, List.length_cons, List.length_nil, ↓reduceIte, if_true, if_false, eq_self, and_true, true_and, and_self, Option.bind_some, Option.bind_none, Option.toList_some, Option.toList_none, List.cons_append, List.nil_append, mset_at, mset_ne, mset_2, mset_mset, Nat.reduceLT, Nat.reduceAdd, e, e3, bI_t]
    · have e3 : (nI n = 3) = False := eq_false (fun g => h3 (nI_inj (by omega) (by decide) g))
      rw [decide_eq_false h3]
      simp (disch := first | omega | assumption | exact Nat.le_of_ble_eq_true rfl) only [m193, e193_0, e193_1, e193_2, e193_5, e193_6, e193_7, e193_10, e193_11, e193_14, e193_15b0, e193_15b1, Bool.false_eq_true, Bool.true_eq_false, gfK, pfK, lnK, isC, alK_n, asK_n, List.getElem?_cons_zero, List.getElem?_cons_succ, List.set_cons_zero, List.set_cons_succ, List.length_cons, List.length_nil, ↓reduceIte, if_true, if_false, eq_self, and_true, true_and, and_self, Option.bind_some, Option.bind_none, Option.toList_some, Option.toList_none, List.cons_append, List.nil_append, mset_at, mset_ne, mset_2, mset_mset, Nat.reduceLT, Nat.reduceAdd, e, e3, bI_f]
theorem R_priceB (hp : ∀ d, d < 8 → A 57 d = nI (pr d)) (hd : d < 8) : evM 99 [.ref 0, .int (nI d)] (BS b u v A τ tick kept mr mf ar af lr lf nr nf) = some (some (.int (nI (pr d))), (BS b u v A τ tick kept mr mf ar af lr lf nr nf)) := by
  have h := hp d hd
  simp (disch := first | omega | assumption | exact Nat.le_of_ble_eq_true rfl) only [m99, e99_0, e99_1, e99_4, e99_7, e99_8, e99_11, e99_12, e99_13, e99_16, e99_17, Bool.false_eq_true, Bool.true_eq_false, gfK, pfK, lnK, isC, alK_n, asK_n, List.getElem?_cons_zero, List.getElem?_cons_succ, List.set_cons_zero, List.set_cons_succ, List.length_cons, List.length_nil, ↓reduceIte, if_true, if_false, eq_self, and_true, true_and, and_self, Option.bind_some, Option.bind_none, Option.toList_some, Option.toList_none, List.cons_append, List.nil_append, mset_at, mset_ne, mset_2, mset_mset, Nat.reduceLT, Nat.reduceAdd, R_isDoing hd, nz1, B_0, B_57, h]
theorem R_dueNow (hP : PKc pr kd A) (hB : PKb pr kd) (hd : d < 8) : evM 115 [.ref 0, .int (nI d)] (BS b u v A τ tick kept mr mf ar af lr lf nr nf) = some (some (.int (nI (dueN (kd d) (pr d)))), (BS b u v A τ tick kept mr mf ar af lr lf nr nf)) := by
  have h := R_kindOf (b := b) (u := u) (v := v) (τ := τ) (tick := tick) (kept := kept) (mr := mr) (mf := mf) (ar := ar) (af := af) (lr := lr) (lf := lf) (nr := nr) (nf := nf) (fun d hd => (hP d hd).2) hd
  have h2 := R_priceB (b := b) (u := u) (v := v) (τ := τ) (tick := tick) (kept := kept) (mr := mr) (mf := mf) (ar := ar) (af := af) (lr := lr) (lf := lf) (nr := nr) (nf := nf) (fun d hd => (hP d hd).1) hd
  have hb := hB d hd
  simp (disch := first | omega | assumption | exact Nat.le_of_ble_eq_true rfl) only [m115, e115_0, e115_1, e115_2, e115_5, e115_6, e115_7, e115_10, e115_13, Bool.false_eq_true, Bool.true_eq_false, gfK, pfK, lnK, isC, alK_n, asK_n, List.getElem?_cons_zero, List.getElem?_cons_succ, List.set_cons_zero, List.set_cons_succ, List.length_cons, List.length_nil, ↓reduceIte, if_true, if_false, eq_self, and_true, true_and, and_self, Option.bind_some, Option.bind_none, Option.toList_some, Option.toList_none, List.cons_append, List.nil_append, mset_at, mset_ne, mset_2, mset_mset, Nat.reduceLT, Nat.reduceAdd, B_0, h, h2, R_dueOf (show kd d < 6 by omega) hb.1]
/-- a line's row as the class writes it -/
def nfA (nf : Nat → Int32) (nr : Nat) (tick : Int32) (m q d t : Nat) (to lv due : Int32) (l : Nat) : Nat → Int32 := upd (upd (upd (upd (upd (upd (upd (upd (upd (zrow nf (nr * 10) 10) (nr * 10) tick) (nr * 10 + 1) (nI m)) (nr * 10 + 6) lv) (nr * 10 + 7) due) (nr * 10 + 2) (nI q)) (nr * 10 + 3) (nI d)) (nr * 10 + 4) (nI t)) (nr * 10 + 5) to) (nr * 10 + 9) (nI l)
/-- the machine's row as the class writes it -/
def afA (af : Nat → Int32) (m : Nat) (ak : Bool) (to : Int32) : Nat → Int32 := upd (if ak = true then upd (upd af (m * 5 + 3) (af (m * 5 + 3) + 1)) (m * 5 + 2) (af (m * 5 + 2) + -1) else upd af (m * 5 + 3) (af (m * 5 + 3) + 1)) (m * 5) to
theorem R_perform (hb : b = 8 ∨ b = 19) (hC : CW A b lc lt) (hW : WF lc lt) (hP : PKc pr kd A) (hB : PKb pr kd) (c2 : mr ≤ 8) (c3 : ar ≤ 4) (c4 : lr ≤ 20) (hn : nr < 60) (hm : m < ar) (ht : t < 16) (hd : d < 8) (hl : l < lc (t * 8 + d)) (hat : af (m * 5) = nI t) (hch : IsCh (fun j => mf (j * 3)) mr (af (m * 5 + 1)) Lm) (hcl : Lm.length ≤ 8) (hlv : evM 9 [.ref 30, .int (nI m), .int (nI d)] (BS b u v A τ tick kept mr mf ar af lr lf nr nf) = some (some (.int (nI k)), (BS b u v A τ tick kept mr mf ar af lr lf nr nf))) (hk : IsCh (fun j => lf (j * 8 + 4)) lr (nI k) Lk) (hkl : Lk.length ≤ 20) : evM 116 [.ref 0, .int (nI m), .int (nI q), .int (nI d), .int (nI l)] (BS b u v A τ tick kept mr mf ar af lr lf nr nf) = some (none, (BS b u v A τ (tick + 1) kept mr (addL 3 2 (nI (dueN (kd d) (pr d))) Lm mf) ar (afA af m (askP (kd d)) (nI (lt (t * 8 + d) l))) lr (addL 8 2 (-1) Lk lf) (nr + 1) (nfA nf nr tick m q d t (nI (lt (t * 8 + d) l)) (nI k) (nI (dueN (kd d) (pr d))) l))) := by
  have hto : evM 73 [.ref b, .int (nI t), .int (nI d), .int (nI l)] (BS b u v A τ tick kept mr mf ar af lr lf nr nf) = some (some (.int (nI (lt (t * 8 + d) l))), (BS b u v A τ tick kept mr mf ar af lr lf nr nf)) := W_lotAt hb (CW_BA hb hC) hW ht hd hl
  have hdue := R_dueNow (b := b) (u := u) (v := v) (τ := τ) (tick := tick) (kept := kept) (mr := mr) (mf := mf) (ar := ar) (af := af) (lr := lr) (lf := lf) (nr := nr) (nf := nf) hP hB hd
  have hask := fun (mf af lf nf : Nat → Int32) => R_needsYes (b := b) (u := u) (v := v) (τ := τ) (tick := tick) (kept := kept) (mr := mr) (mf := mf) (ar := ar) (af := af) (lr := lr) (lf := lf) (nr := nr + 1) (nf := nf) (fun d hd => (hP d hd).2) (hB d hd).2 hd
  have hn1 : nr + 1 ≤ 60 := by omega
  have hn2 : nr < nr + 1 := by omega
  have hus := fun (af nf : Nat → Int32) => B_useUp (b := b) (u := u) (v := v) (A := A) (τ := τ) (tick := tick) (kept := kept) (mr := mr) (mf := mf) (ar := ar) (af := af) (lf := lf) (nr := nr + 1) (nf := nf) c4 hk hkl
  have hsp := fun (af lf nf : Nat → Int32) => B_spend (b := b) (u := u) (v := v) (A := A) (τ := τ) (tick := tick) (kept := kept) (mf := mf) (ar := ar) (af := af) (lr := lr) (lf := lf) (nr := nr + 1) (nf := nf) (a := nI (dueN (kd d) (pr d))) c2 hch hcl
  cases ha : askP (kd d)
  · rw [ha] at hask
    simp (disch := first | omega | assumption | exact Nat.le_of_ble_eq_true rfl) only [m116, e116_0, e116_1, e116_4, e116_7, e116_8, e116_9, e116_12i, e116_12n, e116_12r, e116_14, e116_15, e116_18, e116_20, e116_21, e116_23, e116_26i, e116_26n, e116_26r, e116_28, e116_29, e116_32, e116_33, e116_34, e116_37i, e116_37n, e116_37r, e116_39, e116_40, e116_41, e116_44i, e116_44n, e116_44r, e116_46, e116_47, e116_50, e116_51, e116_53, e116_55, e116_58i, e116_58n, e116_58r, e116_60, e116_61, e116_64, e116_67, e116_69, e116_70, e116_71, e116_74, e116_75, e116_78, e116_81, e116_83, e116_84, e116_85, e116_88, e116_89, e116_92, e116_95, e116_97, e116_98, e116_100, e116_103, e116_104, e116_107, e116_110, e116_112, e116_113, e116_115, e116_118, e116_119, e116_122, e116_125, e116_127, e116_129, e116_131, e116_134, e116_135, e116_138, e116_140, e116_143, e116_144, e116_147, e116_148, e116_151, e116_154, e116_155, e116_156, e116_159, e116_161, e116_164, e116_165, e116_166, e116_169, e116_172, e116_173, e116_176, e116_179, e116_180, e116_181, e116_182, e116_185, e116_186, e116_189, e116_192, e116_193, e116_194, e116_196, e116_199, e116_200, e116_203i, e116_203r, e116_204, e116_207, e116_208, e116_209, e116_212, Bool.false_eq_true, Bool.true_eq_false, gfK, pfK, lnK, isC, alK_n, asK_n, List.getElem?_cons_zero, List.getElem?_cons_succ, List.set_cons_zero, List.set_cons_succ, List.length_cons, List.length_nil, ↓reduceIte, if_true, if_false, eq_self, and_true, true_and, and_self, Option.bind_some, Option.bind_none, Option.toList_some, Option.toList_none, List.cons_append, List.nil_append, mset_at, mset_ne, mset_2, mset_mset, Nat.reduceLT, Nat.reduceAdd, B_0, B_W0 hb, B_30, B_S30, mTR, aTR, lTR, nTR, aGet_0 c3 hm, hat, hto, hlv, hdue, B_addLine hn c3 hm, nPut_2 hn1 hn2, nPut_3 hn1 hn2, nPut_4 hn1 hn2, nPut_5 hn1 hn2, nPut_9 hn1 hn2, hus, aGet_1 c3 hm, upd_ne, hsp, hask, bI_f, aPut_0 c3 hm, nfA, afA]
  · rw [ha] at hask
    simp (disch := first | omega | assumption | exact Nat.le_of_ble_eq_true rfl) only [m116, e116_0, e116_1, e116_4, e116_7, e116_8, e116_9, e116_12i, e116_12n, e116_12r, e116_14, e116_15, e116_18, e116_20, e116_21, e116_23, e116_26i, e116_26n, e116_26r, e116_28, e116_29, e116_32, e116_33, e116_34, e116_37i, e116_37n, e116_37r, e116_39, e116_40, e116_41, e116_44i, e116_44n, e116_44r, e116_46, e116_47, e116_50, e116_51, e116_53, e116_55, e116_58i, e116_58n, e116_58r, e116_60, e116_61, e116_64, e116_67, e116_69, e116_70, e116_71, e116_74, e116_75, e116_78, e116_81, e116_83, e116_84, e116_85, e116_88, e116_89, e116_92, e116_95, e116_97, e116_98, e116_100, e116_103, e116_104, e116_107, e116_110, e116_112, e116_113, e116_115, e116_118, e116_119, e116_122, e116_125, e116_127, e116_129, e116_131, e116_134, e116_135, e116_138, e116_140, e116_143, e116_144, e116_147, e116_148, e116_151, e116_154, e116_155, e116_156, e116_159, e116_161, e116_164, e116_165, e116_166, e116_169, e116_172, e116_173, e116_176, e116_179, e116_180, e116_181, e116_182, e116_185, e116_186, e116_189, e116_192, e116_193, e116_194, e116_196, e116_199, e116_200, e116_203i, e116_203r, e116_204, e116_207, e116_208, e116_209, e116_212, Bool.false_eq_true, Bool.true_eq_false, gfK, pfK, lnK, isC, alK_n, asK_n, List.getElem?_cons_zero, List.getElem?_cons_succ, List.set_cons_zero, List.set_cons_succ, List.length_cons, List.length_nil, ↓reduceIte, if_true, if_false, eq_self, and_true, true_and, and_self, Option.bind_some, Option.bind_none, Option.toList_some, Option.toList_none, List.cons_append, List.nil_append, mset_at, mset_ne, mset_2, mset_mset, Nat.reduceLT, Nat.reduceAdd, B_0, B_W0 hb, B_30, B_S30, mTR, aTR, lTR, nTR, aGet_0 c3 hm, hat, hto, hlv, hdue, B_addLine hn c3 hm, nPut_2 hn1 hn2, nPut_3 hn1 hn2, nPut_4 hn1 hn2, nPut_5 hn1 hn2, nPut_9 hn1 hn2, hus, aGet_1 c3 hm, upd_ne, hsp, hask, bI_t, nz1, aAdd_2 c3 hm, aPut_0 c3 hm, nfA, afA]
/-! the model's way -/
theorem firstF_cut {P : Nat → Bool} {k : Nat} : ∀ (n i : Nat), (∀ j, k ≤ j → P j = false) → k ≤ i + n → firstF P i n = firstF P i (k - i)
  | 0, i, h, h2 => by rw [show k - i = 0 by omega]
  | n + 1, i, h, h2 => by
    by_cases hk : k ≤ i
    · have aux : ∀ n i, k ≤ i → firstF P i n = -9 := by
        intro n
        induction n with
        | zero => intro i _; rfl
        | succ n ih =>
          intro i hi
          rw [firstF, if_neg (by rw [h i hi]; exact Bool.false_ne_true)]
          exact ih (i + 1) (by omega)
      rw [show k - i = 0 by omega, aux (n + 1) i hk]
      rfl
    · rw [show k - i = (k - (i + 1)) + 1 by omega, firstF, firstF]
      by_cases he : P i = true
      · rw [if_pos he, if_pos he]
      · rw [if_neg he, if_neg he]
        exact firstF_cut n (i + 1) h (by omega)
theorem firstF_val {P : Nat → Bool} : ∀ (n i : Nat), firstF P i n = -9 ∨ ∃ j, i ≤ j ∧ j < i + n ∧ firstF P i n = nI j ∧ P j = true
  | 0, i => Or.inl rfl
  | n + 1, i => by
    rw [firstF]
    by_cases h : P i = true
    · rw [if_pos h]
      exact Or.inr ⟨i, by omega, by omega, rfl, h⟩
    · rw [if_neg h]
      rcases firstF_val (P := P) n (i + 1) with h1 | ⟨j, h1, h2, h3, h4⟩
      · exact Or.inl h1
      · exact Or.inr ⟨j, by omega, by omega, h3, h4⟩
theorem mleave_loop (c4 : lr ≤ 20) (hd : d < 8) {Ls : Nat → List Nat} (hL : ∀ j, j < lr → IsCh (fun j => st (45 + 8 * j + 4)) lr (nI j) (Ls j)) {Q : Nat → Bool} (hQ : ∀ i, i < lr → Q i = (decide (st (45 + 8 * i) = nI m) && (bi (st (45 + 8 * i + 1)) d && (Ls i).all (stM st)))) {x5 x6 : Int32} : ∀ (n : Nat), n ≤ lr → ev 192 115 [some (.ref 60), some (.int (nI m)), some (.int (nI q)), some (.int y), some (.int z), some (.int x5), some (.int x6), some (.int (nI d)), some (.int (firstF Q n (lr - n))), some (.int (nI n - 1)), l10] [] (MS b u v A τ st) = ev 192 179 [some (.ref 60), some (.int (nI m)), some (.int (nI q)), some (.int y), some (.int z), some (.int x5), some (.int x6), some (.int (nI d)), some (.int (firstF Q 0 lr)), some (.int (-1)), l10] [] (MS b u v A τ st)
  | 0, hn => by
    rw [e192_115, Nat.sub_zero]
    simp (disch := first | omega | assumption | exact Nat.le_of_ble_eq_true rfl) only [m192, e192_117, Bool.false_eq_true, Bool.true_eq_false, gfK, pfK, lnK, isC, alK_n, asK_n, List.getElem?_cons_zero, List.getElem?_cons_succ, List.set_cons_zero, List.set_cons_succ, List.length_cons, List.length_nil, ↓reduceIte, if_true, if_false, eq_self, and_true, true_and, and_self, Option.bind_some, Option.bind_none, Option.toList_some, Option.toList_none, List.cons_append, List.nil_append, mset_at, mset_ne, mset_2, mset_mset, Nat.reduceLT, Nat.reduceAdd, m0m1, show (-1 : Int32) < 0 from by decide]
  | n + 1, hn => by
    have ih := mleave_loop c4 hd hL hQ (x5 := x5) (x6 := x6) n (by omega)
    have hQn := hQ n (by omega)
    have hst := M_stands (b := b) (u := u) (v := v) (A := A) (τ := τ) (s := st) c4 (hL n (by omega))
    rw [show lr - n = (lr - (n + 1)) + 1 by omega, firstF] at ih
    rw [e192_115]
    by_cases h1 : st (45 + 8 * n) = nI m
    · by_cases h2 : bi (st (45 + 8 * n + 1)) d = true
      · by_cases h3 : (Ls n).all (stM st) = true
        · rw [if_pos (by rw [hQn, decide_eq_true h1, h2, h3]; rfl)] at ih
          rw [h3] at hst
          simp (disch := first | omega | assumption | exact Nat.le_of_ble_eq_true rfl) only [m192, e192_117, e192_120, e192_121, e192_124, e192_126, e192_129, e192_130, e192_131, e192_134, e192_135, e192_138, e192_140, e192_143, e192_144, e192_145, e192_146, e192_148, e192_149, e192_150, e192_151, e192_152, e192_155, e192_156, e192_158, e192_161, e192_164, e192_166, e192_169, e192_171i, e192_171n, e192_171r, e192_173i, e192_173n, e192_173r, e192_176, Bool.false_eq_true, Bool.true_eq_false, gfK, pfK, lnK, isC, alK_n, asK_n, List.getElem?_cons_zero, List.getElem?_cons_succ, List.set_cons_zero, List.set_cons_succ, List.length_cons, List.length_nil, ↓reduceIte, if_true, if_false, eq_self, and_true, true_and, and_self, Option.bind_some, Option.bind_none, Option.toList_some, Option.toList_none, List.cons_append, List.nil_append, mset_at, mset_ne, mset_2, mset_mset, Nat.reduceLT, Nat.reduceAdd, nI_prd, nI_not_neg, M_60, M_70, M_leaveAt, eq_true h1, ra_1, shr_1, h2, hst, nz1, am1, ih]
        · rw [if_neg (by rw [hQn, Bool.eq_false_iff.2 h3, Bool.and_false, Bool.and_false]; exact Bool.false_ne_true)] at ih
          rw [Bool.eq_false_iff.2 h3] at hst
          simp (disch := first | omega | assumption | exact Nat.le_of_ble_eq_true rfl) only [m192, e192_117, e192_120, e192_121, e192_124, e192_126, e192_129, e192_130, e192_131, e192_134, e192_135, e192_138, e192_140, e192_143, e192_144, e192_145, e192_146, e192_148, e192_149, e192_150, e192_151, e192_152, e192_155, e192_156, e192_158, e192_161, e192_164, e192_166, e192_169, e192_171i, e192_171n, e192_171r, e192_173i, e192_173n, e192_173r, e192_176, Bool.false_eq_true, Bool.true_eq_false, gfK, pfK, lnK, isC, alK_n, asK_n, List.getElem?_cons_zero, List.getElem?_cons_succ, List.set_cons_zero, List.set_cons_succ, List.length_cons, List.length_nil, ↓reduceIte, if_true, if_false, eq_self, and_true, true_and, and_self, Option.bind_some, Option.bind_none, Option.toList_some, Option.toList_none, List.cons_append, List.nil_append, mset_at, mset_ne, mset_2, mset_mset, Nat.reduceLT, Nat.reduceAdd, nI_prd, nI_not_neg, M_60, M_70, M_leaveAt, eq_true h1, ra_1, shr_1, h2, hst, am1, ih]
      · rw [if_neg (by rw [hQn, Bool.eq_false_iff.2 h2, Bool.false_and, Bool.and_false]; exact Bool.false_ne_true)] at ih
        simp (disch := first | omega | assumption | exact Nat.le_of_ble_eq_true rfl) only [m192, e192_117, e192_120, e192_121, e192_124, e192_126, e192_129, e192_130, e192_131, e192_134, e192_135, e192_138, e192_140, e192_143, e192_144, e192_145, e192_146, e192_148, e192_149, e192_150, e192_151, e192_152, e192_155, e192_156, e192_158, e192_161, e192_164, e192_166, e192_169, e192_171i, e192_171n, e192_171r, e192_173i, e192_173n, e192_173r, e192_176, Bool.false_eq_true, Bool.true_eq_false, gfK, pfK, lnK, isC, alK_n, asK_n, List.getElem?_cons_zero, List.getElem?_cons_succ, List.set_cons_zero, List.set_cons_succ, List.length_cons, List.length_nil, ↓reduceIte, if_true, if_false, eq_self, and_true, true_and, and_self, Option.bind_some, Option.bind_none, Option.toList_some, Option.toList_none, List.cons_append, List.nil_append, mset_at, mset_ne, mset_2, mset_mset, Nat.reduceLT, Nat.reduceAdd, nI_prd, nI_not_neg, M_60, M_70, M_leaveAt, eq_true h1, ra_1, shr_1, h2, am1, ih]
    · rw [if_neg (by rw [hQn, decide_eq_false h1, Bool.false_and]; exact Bool.false_ne_true)] at ih
      simp (disch := first | omega | assumption | exact Nat.le_of_ble_eq_true rfl) only [m192, e192_117, e192_120, e192_121, e192_124, e192_126, e192_129, e192_130, e192_131, e192_134, e192_135, e192_138, e192_140, e192_143, e192_144, e192_145, e192_146, e192_148, e192_149, e192_150, e192_151, e192_152, e192_155, e192_156, e192_158, e192_161, e192_164, e192_166, e192_169, e192_171i, e192_171n, e192_171r, e192_173i, e192_173n, e192_173r, e192_176, Bool.false_eq_true, Bool.true_eq_false, gfK, pfK, lnK, isC, alK_n, asK_n, List.getElem?_cons_zero, List.getElem?_cons_succ, List.set_cons_zero, List.set_cons_succ, List.length_cons, List.length_nil, ↓reduceIte, if_true, if_false, eq_self, and_true, true_and, and_self, Option.bind_some, Option.bind_none, Option.toList_some, Option.toList_none, List.cons_append, List.nil_append, mset_at, mset_ne, mset_2, mset_mset, Nat.reduceLT, Nat.reduceAdd, nI_prd, nI_not_neg, M_60, M_70, M_leaveAt, h1, am1, ih]
theorem muse_loop (c4 : lr ≤ 20) {x1 x2 x3 x4 x5 x6 x7 x8 x9 : Int32} : ∀ (L : List Nat) (x : Int32) (st : Nat → Int32), IsCh (fun j => st (45 + 8 * j + 4)) lr x L → ev 192 263 [some (.ref 60), some (.int x1), some (.int x2), some (.int x3), some (.int x4), some (.int x5), some (.int x6), some (.int x7), some (.int x8), some (.int x9), some (.int x)] [] (MS b u v A τ st) = ev 192 303 [some (.ref 60), some (.int x1), some (.int x2), some (.int x3), some (.int x4), some (.int x5), some (.int x6), some (.int x7), some (.int x8), some (.int x9), some (.int (-9))] [] (MS b u v A τ (addM 45 8 (-1) L st))
  | [], x, st, h => by
    have hx : x = -9 := h
    subst hx
    rw [e192_263]
    simp (disch := first | omega | assumption | exact Nat.le_of_ble_eq_true rfl) only [m192, e192_265, e192_267, Bool.false_eq_true, Bool.true_eq_false, gfK, pfK, lnK, isC, alK_n, asK_n, List.getElem?_cons_zero, List.getElem?_cons_succ, List.set_cons_zero, List.set_cons_succ, List.length_cons, List.length_nil, ↓reduceIte, if_true, if_false, eq_self, and_true, true_and, and_self, Option.bind_some, Option.bind_none, Option.toList_some, Option.toList_none, List.cons_append, List.nil_append, mset_at, mset_ne, mset_2, mset_mset, Nat.reduceLT, Nat.reduceAdd, addM]
  | j :: L, x, st, ⟨h1, h2, h3⟩ => by
    subst h1
    have ih := muse_loop c4 (x1 := x1) (x2 := x2) (x3 := x3) (x4 := x4) (x5 := x5) (x6 := x6) (x7 := x7) (x8 := x8) (x9 := x9) L (st (45 + 8 * j + 4)) (upd st (45 + 8 * j + 2) (st (45 + 8 * j + 2) + -1)) (ch_congr (fun k hk => (upd_ne (by omega)).symm) L _ h3)
    have hj : j < 20 := by omega
    have e1 : st (45 + 8 * j + 2) - 1 = st (45 + 8 * j + 2) + -1 := Int32.sub_eq_add_neg ..
    rw [e192_263]
    simp (disch := first | omega | assumption | exact Nat.le_of_ble_eq_true rfl) only [m192, e192_265, e192_267, e192_270, e192_271, e192_274, e192_276, e192_279, e192_280, e192_281, e192_282, e192_283, e192_284, e192_285, e192_286, e192_287, e192_290, e192_292, e192_295, e192_296, e192_297, e192_298i, e192_298n, e192_298r, e192_300, Bool.false_eq_true, Bool.true_eq_false, gfK, pfK, lnK, isC, alK_n, asK_n, List.getElem?_cons_zero, List.getElem?_cons_succ, List.set_cons_zero, List.set_cons_succ, List.length_cons, List.length_nil, ↓reduceIte, if_true, if_false, eq_self, and_true, true_and, and_self, Option.bind_some, Option.bind_none, Option.toList_some, Option.toList_none, List.cons_append, List.nil_append, mset_at, mset_ne, mset_2, mset_mset, Nat.reduceLT, Nat.reduceAdd, nI_ne9, M_60, M_70, M_S70, M_leaveAt, ra_2, ra_4, e1, upd_ne, ih, addM]
/-- s behind an act -/
def stA1 (st : Nat → Int32) (m : Nat) (ak : Bool) (Lk Lm : List Nat) (due to : Int32) : Nat → Int32 := upd (addM 5 3 due Lm (upd (addM 45 8 (-1) Lk st) (29 + 4 * m + 3) (addM 45 8 (-1) Lk st (29 + 4 * m + 3) - bI ak))) (29 + 4 * m + 1) to
def stA (s4 : Nat → Int32) (nr : Nat) (tick : Int32) (m q d t : Nat) (to lv due : Int32) (l : Nat) : Nat → Int32 := upd (upd (upd (upd (upd (upd (upd (upd (upd (upd (upd (upd s4 (205 + 10 * nr) tick) (205 + 10 * nr + 1) (nI m)) (205 + 10 * nr + 2) (nI q)) (205 + 10 * nr + 3) (nI d)) (205 + 10 * nr + 4) (nI t)) (205 + 10 * nr + 5) to) (205 + 10 * nr + 6) lv) (205 + 10 * nr + 7) due) (205 + 10 * nr + 8) 0) (205 + 10 * nr + 9) (nI l)) 3 (nI (nr + 1))) 4 (tick + 1)
theorem mperform {x5 x6 : Int32} (hC : MW A lc lt) (hW : WF lc lt) (hP : PKm pr kd A) (hB : PKb pr kd) (c2 : mr ≤ 8) (c4 : lr ≤ 20) (hn : nr < 60) (hm : m < 4) (ht : t < 16) (hd : d < 8) (hl : l < lc (t * 8 + d)) (s3 : st 3 = nI nr) (s4 : st 4 = tick) (hch : IsCh (fun j => st (5 + 3 * j)) mr (st (29 + 4 * m)) Lm) (hk : IsCh (fun j => st (45 + 8 * j + 4)) lr (nI k) Lk) {x9 : Int32} : ev 192 259 [some (.ref 60), some (.int (nI m)), some (.int (nI q)), some (.int (nI l)), some (.int w), some (.int (nI (29 + 4 * m))), some (.int (nI t)), some (.int (nI d)), some (.int (nI k)), some (.int x9), l10] [] (MS b u v A τ st) = some (some (.int (nI d)), (MS b u v A τ (stA (stA1 st m (askP (kd d)) Lk Lm x9 (nI (lt (t * 8 + d) l))) nr tick m q d t (nI (lt (t * 8 + d) l)) (nI k) x9 l))) := by
  have hu := muse_loop (b := b) (u := u) (v := v) (A := A) (τ := τ) (x1 := nI m) (x2 := nI q) (x3 := nI l) (x4 := w) (x5 := nI (29 + 4 * m)) (x6 := nI t) (x7 := nI d) (x8 := nI k) (x9 := x9) c4 Lk _ st hk
  have hLk := ch_lt Lk _ hk
  have hLm := ch_lt Lm _ hch
  simp (disch := first | omega | assumption | exact Nat.le_of_ble_eq_true rfl) only [m192, e192_259, e192_261i, e192_261n, e192_261r, Bool.false_eq_true, Bool.true_eq_false, gfK, pfK, lnK, isC, alK_n, asK_n, List.getElem?_cons_zero, List.getElem?_cons_succ, List.set_cons_zero, List.set_cons_succ, List.length_cons, List.length_nil, ↓reduceIte, if_true, if_false, eq_self, and_true, true_and, and_self, Option.bind_some, Option.bind_none, Option.toList_some, Option.toList_none, List.cons_append, List.nil_append, mset_at, mset_ne, mset_2, mset_mset, Nat.reduceLT, Nat.reduceAdd, hu]
  obtain ⟨q1, hq1⟩ : ∃ q1, q1 = addM 45 8 (-1) Lk st := ⟨_, rfl⟩
  have n1 : ∀ i, i < 45 ∨ 205 ≤ i → q1 i = st i := fun i hi => by
    rw [hq1, addM_ne]
    intro j hj
    have := hLk j hj
    omega
  have hkd := (hP d hd).2
  have hask := fun σ => V_isAsked (σ := σ) (hB d hd).2
  obtain ⟨q2, hq2⟩ : ∃ q2, q2 = upd q1 (29 + 4 * m + 3) (q1 (29 + 4 * m + 3) - bI (askP (kd d))) := ⟨_, rfl⟩
  have n2 : ∀ i, (i < 29 ∨ 205 ≤ i) ∨ i = 29 + 4 * m → q2 i = st i := fun i hi => by
    rw [hq2, upd_ne (by omega), n1 i (by omega)]
  obtain ⟨q3, hq3⟩ : ∃ q3, q3 = addM 5 3 x9 Lm q2 := ⟨_, rfl⟩
  have n3 : ∀ i, i < 5 ∨ 205 ≤ i → q3 i = st i := fun i hi => by
    rw [hq3, addM_lo c2 hLm (by omega), n2 i (by omega)]
  have hsp := M_spends (b := b) (u := u) (v := v) (A := A) (τ := τ) (s := q2) (y := x9) (m := m) (L := Lm) c2 hm (by
    rw [n2 _ (Or.inr rfl)]
    exact ch_congr (fun j hj => (n2 _ (by omega)).symm) Lm _ hch)
  rw [← hq3] at hsp
  have hto : evM 143 [.ref 60, .int (nI t), .int (nI d), .int (nI l)] (MS b u v A τ q3) = some (some (.int (nI (lt (t * 8 + d) l))), (MS b u v A τ q3)) := V_lotOf (MW_up (by omega) hC) hW ht hd hl
  have e1 : ev 192 303 [some (.ref 60), some (.int (nI m)), some (.int (nI q)), some (.int (nI l)), some (.int w), some (.int (nI (29 + 4 * m))), some (.int (nI t)), some (.int (nI d)), some (.int (nI k)), some (.int x9), some (.int (-9))] [] (MS b u v A τ q1) = ev 192 333 [some (.ref 60), some (.int (nI m)), some (.int (nI q)), some (.int (nI l)), some (.int w), some (.int (nI (29 + 4 * m))), some (.int (nI t)), some (.int (nI d)), some (.int (nI k)), some (.int x9), some (.int (-9))] [] (MS b u v A τ q2) := by
    rw [hq2]
    cases ha : askP (kd d)
    · rw [ha] at hask
      simp (disch := first | omega | assumption | exact Nat.le_of_ble_eq_true rfl) only [m192, e192_303, e192_304, e192_307, e192_309, e192_310, e192_311, e192_312, e192_313, e192_314, e192_317, e192_319, e192_320, e192_323, e192_326, e192_327, e192_330, e192_331, e192_332, Bool.false_eq_true, Bool.true_eq_false, gfK, pfK, lnK, isC, alK_n, asK_n, List.getElem?_cons_zero, List.getElem?_cons_succ, List.set_cons_zero, List.set_cons_succ, List.length_cons, List.length_nil, ↓reduceIte, if_true, if_false, eq_self, and_true, true_and, and_self, Option.bind_some, Option.bind_none, Option.toList_some, Option.toList_none, List.cons_append, List.nil_append, mset_at, mset_ne, mset_2, mset_mset, Nat.reduceLT, Nat.reduceAdd, M_60, M_68, M_70, M_S70, ra_3, hkd, hask, bI_f]
    · rw [ha] at hask
      simp (disch := first | omega | assumption | exact Nat.le_of_ble_eq_true rfl) only [m192, e192_303, e192_304, e192_307, e192_309, e192_310, e192_311, e192_312, e192_313, e192_314, e192_317, e192_319, e192_320, e192_323, e192_326, e192_327, e192_330, e192_331, e192_332, Bool.false_eq_true, Bool.true_eq_false, gfK, pfK, lnK, isC, alK_n, asK_n, List.getElem?_cons_zero, List.getElem?_cons_succ, List.set_cons_zero, List.set_cons_succ, List.length_cons, List.length_nil, ↓reduceIte, if_true, if_false, eq_self, and_true, true_and, and_self, Option.bind_some, Option.bind_none, Option.toList_some, Option.toList_none, List.cons_append, List.nil_append, mset_at, mset_ne, mset_2, mset_mset, Nat.reduceLT, Nat.reduceAdd, M_60, M_68, M_70, M_S70, ra_3, hkd, hask, bI_t, nz1]
  rw [← hq1, e1]
  simp (disch := first | omega | assumption | exact Nat.le_of_ble_eq_true rfl) only [m192, e192_333, e192_334, e192_335, e192_337, e192_340, e192_341, e192_344, e192_346, e192_347, e192_348, e192_349, e192_351, e192_353, e192_354, e192_357, Bool.false_eq_true, Bool.true_eq_false, gfK, pfK, lnK, isC, alK_n, asK_n, List.getElem?_cons_zero, List.getElem?_cons_succ, List.set_cons_zero, List.set_cons_succ, List.length_cons, List.length_nil, ↓reduceIte, if_true, if_false, eq_self, and_true, true_and, and_self, Option.bind_some, Option.bind_none, Option.toList_some, Option.toList_none, List.cons_append, List.nil_append, mset_at, mset_ne, mset_2, mset_mset, Nat.reduceLT, Nat.reduceAdd, M_60, M_70, M_S70, ra_1, hsp, hto]
  obtain ⟨q4, hq4⟩ : ∃ q4, q4 = upd q3 (29 + 4 * m + 1) (nI (lt (t * 8 + d) l)) := ⟨_, rfl⟩
  have n43 : q4 3 = nI nr := by rw [hq4, upd_ne (by omega), n3 3 (by omega), s3]
  have n44 : q4 4 = tick := by rw [hq4, upd_ne (by omega), n3 4 (by omega), s4]
  have n4t : q4 (29 + 4 * m + 1) = nI (lt (t * 8 + d) l) := by rw [hq4, upd_at]
  have hfin : stA1 st m (askP (kd d)) Lk Lm x9 (nI (lt (t * 8 + d) l)) = q4 := by
    rw [hq4, hq3, hq2, hq1]
    rfl
  rw [hfin, ← hq4]
  simp (disch := first | omega | assumption | exact Nat.le_of_ble_eq_true rfl) only [m192, e192_358, e192_361, e192_363, e192_364, e192_367, e192_368, e192_369, e192_370, e192_371i, e192_371n, e192_371r, e192_373, e192_374, e192_377, e192_379, e192_380, e192_383, e192_384, e192_385, e192_386, e192_387, e192_390, e192_392, e192_393, e192_394, e192_395, e192_396, e192_397, e192_400, e192_402, e192_403, e192_404, e192_405, e192_406, e192_407, e192_410, e192_412, e192_413, e192_414, e192_416, e192_417, e192_418, e192_421, e192_423, e192_424, e192_425, e192_427, e192_428, e192_429, e192_432, e192_434, e192_435, e192_436, e192_437, e192_440, e192_442, e192_443, e192_444, e192_445, e192_446, e192_447, e192_450, e192_452, e192_454, e192_455, e192_457, e192_458, e192_459, e192_462, e192_464, e192_466, e192_467, e192_469, e192_470, e192_471, e192_474, e192_476, e192_478, e192_479, e192_480, e192_481, e192_482, e192_485, e192_487, e192_489, e192_490, e192_491, e192_492, e192_493, e192_496, e192_497, e192_498, e192_499, e192_500, e192_501, e192_502, e192_503, e192_506, e192_507, e192_508, e192_509, e192_510, e192_511, e192_512, e192_514, Bool.false_eq_true, Bool.true_eq_false, gfK, pfK, lnK, isC, alK_n, asK_n, List.getElem?_cons_zero, List.getElem?_cons_succ, List.set_cons_zero, List.set_cons_succ, List.length_cons, List.length_nil, ↓reduceIte, if_true, if_false, eq_self, and_true, true_and, and_self, Option.bind_some, Option.bind_none, Option.toList_some, Option.toList_none, List.cons_append, List.nil_append, mset_at, mset_ne, mset_2, mset_mset, Nat.reduceLT, Nat.reduceAdd, M_60, M_70, M_S70, alK_l3, asK_l3, alK_l4, asK_l4, lm_10, la_205, ra_1, ra_2, ra_3, ra_4, ra_5, ra_6, ra_7, ra_8, ra_9, upd_ne, upd_at, n43, n44, n4t, nI_succ', stA]
end ACT
