/-! THE CALLS type and clear. -/
theorem nI_bv (z : Int32) : nI z.toBitVec.toNat = z := Int32.toBitVec_inj.mp (by show BitVec.ofNat 32 z.toBitVec.toNat = z.toBitVec; simp)
theorem sh_c : ∀ i, i < 8 → (((nI (8 * i)).toInt64.toUInt64 &&& Int64.toUInt64 63).toNat = 8 * i ∧ (((nI (8 * i)).toInt64 &&& 63).toBitVec.smod 64).toNat = 8 * i) := by decide +kernel
theorem m255 : ∀ j, j < 32 → ((255 : Int32).toBitVec.getLsbD j = decide (j < 8) ∧ (255 : Int64).toBitVec.getLsbD j = decide (j < 8)) := by decide +kernel
/-- the byte number i of a long, the lowest first -/
def bty (x : Int64) (i : Nat) : Int32 := (x.toUInt64 >>> ((nI (8 * i)).toInt64.toUInt64 &&& Int64.toUInt64 63)).toInt64.toInt32 &&& 255
def btn (x : Int64) (i : Nat) : Nat := (bty x i).toBitVec.toNat
theorem bty_n (x : Int64) (i : Nat) : bty x i = nI (btn x i) := (nI_bv _).symm
theorem btn_lt (x : Int64) (i : Nat) : btn x i < 256 := by
  unfold btn bty
  rw [Int32.toBitVec_and, BitVec.toNat_and]
  exact Nat.lt_of_le_of_lt Nat.and_le_right (by decide)
theorem bty_m (x : Int64) {i : Nat} (hi : i < 8) : ((x >>> ((nI (8 * i)).toInt64 &&& 63)) &&& 255).toInt32 = bty x i := by
  obtain ⟨h1, h2⟩ := sh_c i hi
  apply Int32.toBitVec_inj.mp
  unfold bty
  rw [Int32.toBitVec_and, Int64.toBitVec_toInt32, Int64.toBitVec_toInt32, Int64.toBitVec_and, Int64.toBitVec_shiftRight]
  have e : (x.toUInt64 >>> ((nI (8 * i)).toInt64.toUInt64 &&& Int64.toUInt64 63)).toInt64.toBitVec = x.toBitVec >>> (8 * i) := by
    apply BitVec.eq_of_toNat_eq
    show (x.toUInt64 >>> ((nI (8 * i)).toInt64.toUInt64 &&& Int64.toUInt64 63)).toNat = _
    rw [UInt64.toNat_shiftRight, h1, Nat.mod_eq_of_lt (by omega), BitVec.toNat_ushiftRight]
    rfl
  rw [e]
  show BitVec.signExtend 32 (BitVec.sshiftRight x.toBitVec (((nI (8 * i)).toInt64 &&& 63).toBitVec.smod 64).toNat &&& (255 : Int64).toBitVec) = _
  rw [h2]
  apply BitVec.eq_of_getLsbD_eq
  intro j hj
  rw [BitVec.getLsbD_and, BitVec.getLsbD_signExtend, BitVec.getLsbD_signExtend, BitVec.getLsbD_and, BitVec.getLsbD_sshiftRight, BitVec.getLsbD_ushiftRight, (m255 j hj).1, (m255 j hj).2]
  by_cases h8 : j < 8
  · simp [h8, hj, show j < 64 by omega, show 8 * i + j < 64 by omega]
  · simp [h8, show j < 64 by omega]
/-- the model's number of bytes -/
def T60 (A : Nat → Nat → Int32) (x : Int32) : Nat → Nat → Int32 := up A 60 (fL [A 60 0, x, A 60 2, A 60 3, A 60 4, A 60 5, A 60 6, A 60 7, A 60 8, A 60 9, A 60 10, A 60 11, A 60 12, A 60 13, A 60 14, A 60 15])
theorem T60_60 {A : Nat → Nat → Int32} {x : Int32} : ∀ i, i < 16 → i ≠ 1 → T60 A x 60 i = A 60 i
  | 0, _, _ => rfl
  | 1, _, h => absurd rfl h
  | 2, _, _ => rfl
  | 3, _, _ => rfl
  | 4, _, _ => rfl
  | 5, _, _ => rfl
  | 6, _, _ => rfl
  | 7, _, _ => rfl
  | 8, _, _ => rfl
  | 9, _, _ => rfl
  | 10, _, _ => rfl
  | 11, _, _ => rfl
  | 12, _, _ => rfl
  | 13, _, _ => rfl
  | 14, _, _ => rfl
  | 15, _, _ => rfl
  | i + 16, h, _ => absurd h (by omega)
section TYPE
variable {b : Nat} {u v : Int64} {A : Nat → Nat → Int32} {τ : Nat × Nat × Nat × (Nat → Int32)} {n : Nat} {t : Nat → Nat} {x : Int64} {y z : Int32}
theorem S_ty : mset (G b u v A τ) 60 (.inr (8, [.int (A 60 0), .long v, .ref 61, .int z, .int (A 60 2), .int (A 60 3), .int (A 60 4), .int (A 60 5), .int (A 60 6), .int (A 60 7), .ref 62, .int (A 60 8), .int (A 60 9), .int (A 60 10), .int (A 60 11), .ref 63, .int (A 60 12), .int (A 60 13), .ref 64, .int (A 60 14), .int (A 60 15), .ref 65, .ref 66, .ref 67, .ref 68, .ref 69, .ref 70, .ref 71, .ref 72])) = G b u v (T60 A z) τ := S_60
theorem S_ty61 {f : Nat → Int32} : mset (G b u v (up A 61 f) τ) 60 (.inr (8, [.int (A 60 0), .long v, .ref 61, .int z, .int (A 60 2), .int (A 60 3), .int (A 60 4), .int (A 60 5), .int (A 60 6), .int (A 60 7), .ref 62, .int (A 60 8), .int (A 60 9), .int (A 60 10), .int (A 60 11), .ref 63, .int (A 60 12), .int (A 60 13), .ref 64, .int (A 60 14), .int (A 60 15), .ref 65, .ref 66, .ref 67, .ref 68, .ref 69, .ref 70, .ref 71, .ref 72])) = G b u v (T60 (up A 61 f) z) τ := S_ty (A := up A 61 f)
theorem T60_ne {k : Nat} (h : k ≠ 60) : T60 A z k = A k := up_ne h
theorem x_append (hA : A 1 0 = nI n) (hn : n < 600) : evM 42 [.ref 1, .int z] (G b u v A τ) = some (none, G b u v (up (up A 2 (upd (A 2) n z)) 1 (fL [nI (n + 1)])) τ) := by
  have e1 : up A 2 (upd (A 2) n z) 1 0 = nI n := by rw [up_ne (by omega)]; exact hA
  simp (disch := first | omega | assumption | exact Nat.le_of_ble_eq_true rfl) only [m42, e42_0, e42_1, e42_4, e42_7, e42_8, e42_11, e42_14, e42_17, e42_18, e42_21, e42_22, e42_25, e42_26, e42_27, e42_28i, e42_28r, e42_29, e42_32, e42_33, e42_34, e42_37, Bool.false_eq_true, Bool.true_eq_false, gfK, pfK, lnK, isC, alK_n, asK_n, List.getElem?_cons_zero, List.getElem?_cons_succ, List.set_cons_zero, List.set_cons_succ, List.length_cons, List.length_nil, ↓reduceIte, if_true, if_false, eq_self, and_true, true_and, and_self, Option.bind_some, Option.bind_none, Option.toList_some, Option.toList_none, List.cons_append, List.nil_append, mset_at, mset_ne, mset_2, mset_mset, Nat.reduceLT, Nat.reduceAdd, G_1, G_2, S_1, S_2, hA, e1, nI_not_neg, le_600, show ¬ 600 ≤ n from by omega, nI_succ']
theorem ra_m1 (f : Nat) : nI f + (-1) = nI f - 1 := (Int32.sub_eq_add_neg _ _).symm
theorem prd_neg {f : Nat} (h : f < 1000) : (nI (f + 1) - 1 < 0) = False := by rw [nI_prd, nI_not_neg (by omega)]
theorem x_type_loop : ∀ (f n : Nat) (A : Nat → Nat → Int32), f ≤ 8 → n + f ≤ 600 → A 1 0 = nI n → ∃ A', ev 86 35 [some (.ref 0), some (.long x), none, some (.int y), some (.int (nI f - 1))] [] (G b u v A τ) = some (some (.int (nI (n + f))), G b u v A' τ) ∧ A' 1 0 = nI (n + f) ∧ (∀ j, j < n + f → A' 2 j = if j < n then A 2 j else nI (btn x (n + f - 1 - j))) ∧ ∀ k, k ≠ 1 → k ≠ 2 → A' k = A k
  | 0, n, A, hf, hn, hA => by
    refine ⟨A, ?_, hA, fun j hj => (if_pos hj).symm, fun k _ _ => rfl⟩
    rw [e86_35]
    simp (disch := first | omega | assumption | exact Nat.le_of_ble_eq_true rfl) only [m86, e86_37, e86_40, e86_41, e86_44, e86_45, e86_47, e86_49, e86_50, e86_51, e86_52, e86_55, e86_56, e86_59i, e86_59n, e86_59r, e86_62, e86_65, e86_66, e86_69, e86_72, Bool.false_eq_true, Bool.true_eq_false, gfK, pfK, lnK, isC, alK_n, asK_n, List.getElem?_cons_zero, List.getElem?_cons_succ, List.set_cons_zero, List.set_cons_succ, List.length_cons, List.length_nil, ↓reduceIte, if_true, if_false, eq_self, and_true, true_and, and_self, Option.bind_some, Option.bind_none, Option.toList_some, Option.toList_none, List.cons_append, List.nil_append, mset_at, mset_ne, mset_2, mset_mset, Nat.reduceLT, Nat.reduceAdd, eq_true (show nI 0 - 1 < 0 from by decide), G_0, G_1, hA, Nat.add_zero]
  | f + 1, n, A, hf, hn, hA => by
    obtain ⟨A', h1, h2, h3, h4⟩ := x_type_loop f (n + 1) (up (up A 2 (upd (A 2) n (bty x f))) 1 (fL [nI (n + 1)])) (by omega) (by omega) (by rw [up_at]; rfl)
    have e : n + 1 + f = n + (f + 1) := by omega
    rw [e] at h1 h2 h3
    refine ⟨A', ?_, h2, fun j hj => ?_, fun k k1 k2 => by rw [h4 k k1 k2, up_ne k1, up_ne k2]⟩
    · have ha := x_append (b := b) (u := u) (v := v) (τ := τ) (z := bty x f) hA (by omega)
      rw [bty] at ha h1
      rw [nI_prd, e86_35]
      simp (disch := first | omega | assumption | exact Nat.le_of_ble_eq_true rfl) only [m86, e86_37, e86_40, e86_41, e86_44, e86_45, e86_47, e86_49, e86_50, e86_51, e86_52, e86_55, e86_56, e86_59i, e86_59n, e86_59r, e86_62, Bool.false_eq_true, Bool.true_eq_false, gfK, pfK, lnK, isC, alK_n, asK_n, List.getElem?_cons_zero, List.getElem?_cons_succ, List.set_cons_zero, List.set_cons_succ, List.length_cons, List.length_nil, ↓reduceIte, if_true, if_false, eq_self, and_true, true_and, and_self, Option.bind_some, Option.bind_none, Option.toList_some, Option.toList_none, List.cons_append, List.nil_append, mset_at, mset_ne, mset_2, mset_mset, Nat.reduceLT, Nat.reduceAdd, nI_not_neg, G_0, G_1, lm_8, ha, ra_m1 f, h1]
    · rw [h3 j hj, up_ne (by omega), up_at]
      by_cases hjn : j = n
      · subst hjn
        rw [if_pos (by omega), if_neg (by omega), upd_at, show j + (f + 1) - 1 - j = f by omega]
        exact bty_n x f
      · rw [upd_ne hjn]
        by_cases hlt : j < n
        · rw [if_pos (by omega), if_pos hlt]
        · rw [if_neg (by omega), if_neg hlt]
theorem y_type_loop : ∀ (f n : Nat) (A : Nat → Nat → Int32), f ≤ 8 → n + f ≤ 600 → A 60 1 = nI n → ∃ A', ev 144 37 [some (.ref 60), some (.long x), none, some (.int y), some (.int (nI f - 1))] [] (G b u v A τ) = some (some (.int (nI (n + f))), G b u v A' τ) ∧ A' 60 1 = nI (n + f) ∧ (∀ i, i < 16 → i ≠ 1 → A' 60 i = A 60 i) ∧ (∀ j, j < n + f → A' 61 j = if j < n then A 61 j else nI (btn x (n + f - 1 - j))) ∧ ∀ k, k ≠ 60 → k ≠ 61 → A' k = A k
  | 0, n, A, hf, hn, hA => by
    refine ⟨A, ?_, hA, fun _ _ _ => rfl, fun j hj => (if_pos hj).symm, fun k _ _ => rfl⟩
    rw [e144_37]
    simp (disch := first | omega | assumption | exact Nat.le_of_ble_eq_true rfl) only [m144, e144_39, e144_42, e144_43, e144_46, e144_47, e144_50, e144_51, e144_53, e144_55, e144_56, e144_57, e144_60, e144_61, e144_62, e144_63, e144_64i, e144_64r, e144_65, e144_68, e144_69, e144_70, e144_73i, e144_73n, e144_73r, e144_76, e144_79, e144_80, e144_83, Bool.false_eq_true, Bool.true_eq_false, gfK, pfK, lnK, isC, alK_n, asK_n, List.getElem?_cons_zero, List.getElem?_cons_succ, List.set_cons_zero, List.set_cons_succ, List.length_cons, List.length_nil, ↓reduceIte, if_true, if_false, eq_self, and_true, true_and, and_self, Option.bind_some, Option.bind_none, Option.toList_some, Option.toList_none, List.cons_append, List.nil_append, mset_at, mset_ne, mset_2, mset_mset, Nat.reduceLT, Nat.reduceAdd, eq_true (show nI 0 - 1 < 0 from by decide), G_60, hA, Nat.add_zero]
  | f + 1, n, A, hf, hn, hA => by
    obtain ⟨A', h1, h2, h5, h3, h4⟩ := y_type_loop f (n + 1) (T60 (up A 61 (upd (A 61) n (bty x f))) (nI (n + 1))) (by omega) (by omega) rfl
    have e : n + 1 + f = n + (f + 1) := by omega
    rw [e] at h1 h2 h3
    refine ⟨A', ?_, h2, fun i i1 i2 => by rw [h5 i i1 i2, T60_60 i i1 i2, up_ne (by omega)], fun j hj => ?_, fun k k1 k2 => by rw [h4 k k1 k2, T60_ne k1, up_ne k2]⟩
    · have hb := bty_m x (i := f) (by omega)
      rw [nI_prd, e144_37]
      simp (disch := first | omega | assumption | exact Nat.le_of_ble_eq_true rfl) only [m144, e144_39, e144_42, e144_43, e144_46, e144_47, e144_50, e144_51, e144_53, e144_55, e144_56, e144_57, e144_60, e144_61, e144_62, e144_63, e144_64i, e144_64r, e144_65, e144_68, e144_69, e144_70, e144_73i, e144_73n, e144_73r, e144_76, Bool.false_eq_true, Bool.true_eq_false, gfK, pfK, lnK, isC, alK_n, asK_n, List.getElem?_cons_zero, List.getElem?_cons_succ, List.set_cons_zero, List.set_cons_succ, List.length_cons, List.length_nil, ↓reduceIte, if_true, if_false, eq_self, and_true, true_and, and_self, Option.bind_some, Option.bind_none, Option.toList_some, Option.toList_none, List.cons_append, List.nil_append, mset_at, mset_ne, mset_2, mset_mset, Nat.reduceLT, Nat.reduceAdd, nI_not_neg, G_60, G_61, S_61, S_ty61, lm_8, hA, hb, nI_succ', ra_m1 f, h1]
    · rw [h3 j hj, T60_ne (by omega), up_at]
      by_cases hjn : j = n
      · subst hjn
        rw [if_pos (by omega), if_neg (by omega), upd_at, show j + (f + 1) - 1 - j = f by omega]
        exact bty_n x f
      · rw [upd_ne hjn]
        by_cases hlt : j < n
        · rw [if_pos (by omega), if_pos hlt]
        · rw [if_neg (by omega), if_neg hlt]
theorem w_type (hT : TX A n t) (h0 : A 60 0 = 0) (x : Int64) (y : Int32) : ∃ r A1 A2 n' t', evM 86 [.ref 0, .long x, .int y] (G b u v A τ) = some (some (.int r), G b u v A1 τ) ∧ evM 144 [.ref 60, .long x, .int y] (G b u v A1 τ) = some (some (.int r), G b u v A2 τ) ∧ TX A2 n' t' ∧ (∀ i, i < 16 → i ≠ 1 → A2 60 i = A 60 i) ∧ ∀ k, k ≠ 1 → k ≠ 2 → k ≠ 60 → k ≠ 61 → A2 k = A k := by
  obtain ⟨t1, t2, t3, t4, t5⟩ := hT
  by_cases hy : 1 ≤ y ∧ y ≤ 8
  · obtain ⟨f, hf, rfl⟩ : ∃ f, f < 9 ∧ y = nI f := by
      rcases idx y (n := 9) (by omega) with h | h
      · exfalso
        refine not_in h ⟨?_, ?_⟩
        · exact Int32.le_trans (by decide) hy.1
        · have h9 := hy.2
          rw [show (8 : Int32) = nI 9 - 1 from by decide, le_pred (by omega)] at h9
          exact h9
      · exact h
    have hf1 : 1 ≤ f := (nI_leI (a := 1) (by decide) (by omega)).1 hy.1
    by_cases hn : n + f ≤ 600
    · obtain ⟨A1, c1, c2, c3, c4⟩ := x_type_loop (b := b) (u := u) (v := v) (τ := τ) (x := x) (y := nI f) f n A (by omega) hn t2
      have e60 : A1 60 = A 60 := c4 60 (by omega) (by omega)
      obtain ⟨A2, d1, d2, d5, d3, d4⟩ := y_type_loop (b := b) (u := u) (v := v) (τ := τ) (x := x) (y := nI f) f n A1 (by omega) hn (by rw [e60]; exact t3)
      refine ⟨nI (n + f), A1, A2, n + f, fun j => if j < n then t j else btn x (n + f - 1 - j), ?_, ?_, ⟨hn, by rw [d4 1 (by omega) (by omega)]; exact c2, d2, fun i => ?_, fun j hj => ⟨?_, ?_⟩⟩, fun i i1 i2 => by rw [d5 i i1 i2, e60], fun k k1 k2 k3 k4 => by rw [d4 k k3 k4, c4 k k1 k2]⟩
      · simp (disch := first | omega | assumption | exact Nat.le_of_ble_eq_true rfl) only [m86, e86_0, e86_1, e86_2, e86_4, e86_7, e86_10, e86_11, e86_12, e86_13, e86_16, e86_19, e86_20, e86_21, e86_24, e86_27, e86_29, e86_30, e86_31, e86_32, e86_33i, e86_33n, e86_33r, Bool.false_eq_true, Bool.true_eq_false, gfK, pfK, lnK, isC, alK_n, asK_n, List.getElem?_cons_zero, List.getElem?_cons_succ, List.set_cons_zero, List.set_cons_succ, List.length_cons, List.length_nil, ↓reduceIte, if_true, if_false, eq_self, and_true, true_and, and_self, Option.bind_some, Option.bind_none, Option.toList_some, Option.toList_none, List.cons_append, List.nil_append, mset_at, mset_ne, mset_2, mset_mset, Nat.reduceLT, Nat.reduceAdd, R_within, hy, nz1, G_0, G_1, t2, nI_add, show ((600 : Int32) < nI (n + f)) = False from by rw [gt_600 (by omega)]; exact eq_false (by omega), show (nI (n + f) ≤ (600 : Int32)) = True from by rw [show (600 : Int32) = nI 600 from rfl, nI_leI (by omega) (by omega)]; exact eq_true hn, c1]
      · have h0' : A1 60 0 = 0 := by rw [e60]; exact h0
        have t3' : A1 60 1 = nI n := by rw [e60]; exact t3
        simp (disch := first | omega | assumption | exact Nat.le_of_ble_eq_true rfl) only [m144, e144_0, e144_1, e144_2, e144_5, e144_6, e144_7, e144_9, e144_12, Bool.false_eq_true, Bool.true_eq_false, gfK, pfK, lnK, isC, alK_n, asK_n, List.getElem?_cons_zero, List.getElem?_cons_succ, List.set_cons_zero, List.set_cons_succ, List.length_cons, List.length_nil, ↓reduceIte, if_true, if_false, eq_self, and_true, true_and, and_self, Option.bind_some, Option.bind_none, Option.toList_some, Option.toList_none, List.cons_append, List.nil_append, mset_at, mset_ne, mset_2, mset_mset, Nat.reduceLT, Nat.reduceAdd, M_in, hy, nz1, G_60, G_thr h0']
        simp (disch := first | omega | assumption | exact Nat.le_of_ble_eq_true rfl) only [m144, e144_17, e144_18, e144_21, e144_22, e144_23, e144_26, e144_29, e144_31, e144_32, e144_33, e144_34, e144_35i, e144_35n, e144_35r, Bool.false_eq_true, Bool.true_eq_false, gfK, pfK, lnK, isC, alK_n, asK_n, List.getElem?_cons_zero, List.getElem?_cons_succ, List.set_cons_zero, List.set_cons_succ, List.length_cons, List.length_nil, ↓reduceIte, if_true, if_false, eq_self, and_true, true_and, and_self, Option.bind_some, Option.bind_none, Option.toList_some, Option.toList_none, List.cons_append, List.nil_append, mset_at, mset_ne, mset_2, mset_mset, Nat.reduceLT, Nat.reduceAdd, G_60, t3', nI_add, show ((600 : Int32) < nI (n + f)) = False from by rw [gt_600 (by omega)]; exact eq_false (by omega), show (nI (n + f) ≤ (600 : Int32)) = True from by rw [show (600 : Int32) = nI 600 from rfl, nI_leI (by omega) (by omega)]; exact eq_true hn, d1]
      · show (if i < n then t i else btn x (n + f - 1 - i)) < 256
        split
        · exact t4 i
        · exact btn_lt _ _
      · rw [d4 2 (by omega) (by omega), c3 j hj]
        show _ = nI (if j < n then t j else btn x (n + f - 1 - j))
        by_cases h : j < n
        · rw [if_pos h, if_pos h]
          exact (t5 j h).1
        · rw [if_neg h, if_neg h]
      · rw [d3 j hj, c4 61 (by omega) (by omega)]
        show _ = nI (if j < n then t j else btn x (n + f - 1 - j))
        by_cases h : j < n
        · rw [if_pos h, if_pos h]
          exact (t5 j h).2
        · rw [if_neg h, if_neg h]
    · refine ⟨-3, A, A, n, t, ?_, ?_, ⟨t1, t2, t3, t4, t5⟩, fun _ _ _ => rfl, fun _ _ _ _ _ => rfl⟩
      · simp (disch := first | omega | assumption | exact Nat.le_of_ble_eq_true rfl) only [m86, e86_0, e86_1, e86_2, e86_4, e86_7, e86_10, e86_11, e86_12, e86_13, e86_16, e86_19, e86_20, e86_21, e86_24, e86_27, e86_29, Bool.false_eq_true, Bool.true_eq_false, gfK, pfK, lnK, isC, alK_n, asK_n, List.getElem?_cons_zero, List.getElem?_cons_succ, List.set_cons_zero, List.set_cons_succ, List.length_cons, List.length_nil, ↓reduceIte, if_true, if_false, eq_self, and_true, true_and, and_self, Option.bind_some, Option.bind_none, Option.toList_some, Option.toList_none, List.cons_append, List.nil_append, mset_at, mset_ne, mset_2, mset_mset, Nat.reduceLT, Nat.reduceAdd, R_within, hy, nz1, G_0, G_1, t2, nI_add, show (nI (n + f) ≤ (600 : Int32)) = False from by rw [show (600 : Int32) = nI 600 from rfl, nI_leI (by omega) (by omega)]; exact eq_false hn]
      · simp (disch := first | omega | assumption | exact Nat.le_of_ble_eq_true rfl) only [m144, e144_0, e144_1, e144_2, e144_5, e144_6, e144_7, e144_9, e144_12, Bool.false_eq_true, Bool.true_eq_false, gfK, pfK, lnK, isC, alK_n, asK_n, List.getElem?_cons_zero, List.getElem?_cons_succ, List.set_cons_zero, List.set_cons_succ, List.length_cons, List.length_nil, ↓reduceIte, if_true, if_false, eq_self, and_true, true_and, and_self, Option.bind_some, Option.bind_none, Option.toList_some, Option.toList_none, List.cons_append, List.nil_append, mset_at, mset_ne, mset_2, mset_mset, Nat.reduceLT, Nat.reduceAdd, M_in, hy, nz1, G_60, G_thr h0]
        simp (disch := first | omega | assumption | exact Nat.le_of_ble_eq_true rfl) only [m144, e144_17, e144_18, e144_21, e144_22, e144_23, e144_26, e144_29, e144_31, Bool.false_eq_true, Bool.true_eq_false, gfK, pfK, lnK, isC, alK_n, asK_n, List.getElem?_cons_zero, List.getElem?_cons_succ, List.set_cons_zero, List.set_cons_succ, List.length_cons, List.length_nil, ↓reduceIte, if_true, if_false, eq_self, and_true, true_and, and_self, Option.bind_some, Option.bind_none, Option.toList_some, Option.toList_none, List.cons_append, List.nil_append, mset_at, mset_ne, mset_2, mset_mset, Nat.reduceLT, Nat.reduceAdd, G_60, t3, nI_add, show (nI (n + f) ≤ (600 : Int32)) = False from by rw [show (600 : Int32) = nI 600 from rfl, nI_leI (by omega) (by omega)]; exact eq_false hn]
  · refine ⟨-1, A, A, n, t, ?_, ?_, ⟨t1, t2, t3, t4, t5⟩, fun _ _ _ => rfl, fun _ _ _ _ _ => rfl⟩
    · simp (disch := first | omega | assumption | exact Nat.le_of_ble_eq_true rfl) only [m86, e86_0, e86_1, e86_2, e86_4, e86_7, e86_10, e86_11, Bool.false_eq_true, Bool.true_eq_false, gfK, pfK, lnK, isC, alK_n, asK_n, List.getElem?_cons_zero, List.getElem?_cons_succ, List.set_cons_zero, List.set_cons_succ, List.length_cons, List.length_nil, ↓reduceIte, if_true, if_false, eq_self, and_true, true_and, and_self, Option.bind_some, Option.bind_none, Option.toList_some, Option.toList_none, List.cons_append, List.nil_append, mset_at, mset_ne, mset_2, mset_mset, Nat.reduceLT, Nat.reduceAdd, R_within, hy]
    · simp (disch := first | omega | assumption | exact Nat.le_of_ble_eq_true rfl) only [m144, e144_0, e144_1, e144_2, e144_5, e144_6, e144_7, e144_9, e144_12, e144_15, e144_16, Bool.false_eq_true, Bool.true_eq_false, gfK, pfK, lnK, isC, alK_n, asK_n, List.getElem?_cons_zero, List.getElem?_cons_succ, List.set_cons_zero, List.set_cons_succ, List.length_cons, List.length_nil, ↓reduceIte, if_true, if_false, eq_self, and_true, true_and, and_self, Option.bind_some, Option.bind_none, Option.toList_some, Option.toList_none, List.cons_append, List.nil_append, mset_at, mset_ne, mset_2, mset_mset, Nat.reduceLT, Nat.reduceAdd, M_in, hy, G_60, G_thr h0]
theorem w_clear (hT : TX A n t) (h0 : A 60 0 = 0) : ∃ r A1 A2, evM 88 [.ref 0] (G b u v A τ) = some (some (.int r), G b u v A1 τ) ∧ evM 146 [.ref 60] (G b u v A1 τ) = some (some (.int r), G b u v A2 τ) ∧ TX A2 0 t ∧ (∀ i, i < 16 → i ≠ 1 → A2 60 i = A 60 i) ∧ ∀ k, k ≠ 1 → k ≠ 2 → k ≠ 60 → k ≠ 61 → A2 k = A k := by
  obtain ⟨t1, t2, t3, t4, t5⟩ := hT
  have h0' : up A 1 (fL [0]) 60 0 = 0 := by rw [up_ne (by omega)]; exact h0
  have t3' : up A 1 (fL [0]) 60 1 = nI n := by rw [up_ne (by omega)]; exact t3
  refine ⟨nI n, up A 1 (fL [0]), T60 (up A 1 (fL [0])) 0, ?_, ?_, ⟨Nat.zero_le _, by rw [T60_ne (by omega), up_at]; rfl, rfl, t4, fun i hi => absurd hi (Nat.not_lt_zero i)⟩, fun i i1 i2 => by rw [T60_60 i i1 i2, up_ne (by omega)], fun k k1 k2 k3 k4 => by rw [T60_ne k3, up_ne k1]⟩
  · simp (disch := first | omega | assumption | exact Nat.le_of_ble_eq_true rfl) only [m88, e88_0, e88_1, e88_4, e88_7i, e88_7n, e88_7r, e88_8, e88_9, e88_12, e88_13, e88_16, e88_17, Bool.false_eq_true, Bool.true_eq_false, gfK, pfK, lnK, isC, alK_n, asK_n, List.getElem?_cons_zero, List.getElem?_cons_succ, List.set_cons_zero, List.set_cons_succ, List.length_cons, List.length_nil, ↓reduceIte, if_true, if_false, eq_self, and_true, true_and, and_self, Option.bind_some, Option.bind_none, Option.toList_some, Option.toList_none, List.cons_append, List.nil_append, mset_at, mset_ne, mset_2, mset_mset, Nat.reduceLT, Nat.reduceAdd, G_0, G_1, S_1, t2]
  · simp (disch := first | omega | assumption | exact Nat.le_of_ble_eq_true rfl) only [m146, e146_0, e146_1, e146_2, e146_5, e146_6, e146_9i, e146_9n, e146_9r, e146_10, e146_11, e146_12, e146_15, e146_16, Bool.false_eq_true, Bool.true_eq_false, gfK, pfK, lnK, isC, alK_n, asK_n, List.getElem?_cons_zero, List.getElem?_cons_succ, List.set_cons_zero, List.set_cons_succ, List.length_cons, List.length_nil, ↓reduceIte, if_true, if_false, eq_self, and_true, true_and, and_self, Option.bind_some, Option.bind_none, Option.toList_some, Option.toList_none, List.cons_append, List.nil_append, mset_at, mset_ne, mset_2, mset_mset, Nat.reduceLT, Nat.reduceAdd, G_60, G_thr h0', S_ty]
    rw [t3']
end TYPE
