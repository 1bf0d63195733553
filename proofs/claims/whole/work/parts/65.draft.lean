/-! THE CLASS'S DRAFT: emptied; a lot, a state, a bar put to it. -/
def FW (A : Nat → Nat → Int32) (w : Nat) (x0 x1 x2 x3 x4 : Int32) : Nat → Nat → Int32 := up A w (fL [x0, x1, x2, x3, x4, A w 5, A w 6])
def LA (A : Nat → Nat → Int32) (w k i : Nat) (S : Int32) (q : Nat) : Nat → Nat → Int32 := up (up (up A (w + 3) (upd (A (w + 3)) (k * 4 + i) (nI q))) (w + 1) (upd (A (w + 1)) k (nI (i + 1)))) (w + 2) (upd (A (w + 2)) k (S ||| bit q))
section XDRAFT
variable {b w : Nat} {u v : Int64} {A : Nat → Nat → Int32} {τ : Nat × Nat × Nat × (Nat → Int32)} {lc : Nat → Nat} {lt : Nat → Nat → Nat} {fr to : Nat → Nat} {st : Nat → Int32} {nw nb n i j p e c k q s d : Nat} {x y z S : Int32} {σ : mS} {l1 l2 l3 l4 l5 : Option Value}
theorem FW_w {x0 x1 x2 x3 x4 : Int32} : FW A w x0 x1 x2 x3 x4 w = fL [x0, x1, x2, x3, x4, A w 5, A w 6] := up_at
theorem FW_ne {x0 x1 x2 x3 x4 : Int32} (h : k ≠ w) : FW A w x0 x1 x2 x3 x4 k = A k := up_ne h
theorem FW_FC {x0 x1 x2 x3 x4 : Int32} (hw : w = 8 ∨ w = 19) : FC w A (FW A w x0 x1 x2 x3 x4) := fun k hk => up_ne (by omega)
theorem LA_1 : LA A w k i S q (w + 1) = upd (A (w + 1)) k (nI (i + 1)) := by unfold LA; simp (disch := omega) only [upd_at, upd_ne, up_at, up_ne]
theorem LA_2 : LA A w k i S q (w + 2) = upd (A (w + 2)) k (S ||| bit q) := by unfold LA; simp (disch := omega) only [upd_at, upd_ne, up_at, up_ne]
theorem LA_3 : LA A w k i S q (w + 3) = upd (A (w + 3)) (k * 4 + i) (nI q) := by unfold LA; simp (disch := omega) only [upd_at, upd_ne, up_at, up_ne]
theorem LA_ne (h : j ≠ w + 1 ∧ j ≠ w + 2 ∧ j ≠ w + 3) : LA A w k i S q j = A j := by
  unfold LA
  rw [up_ne h.2.1, up_ne h.1, up_ne h.2.2]
theorem LA_FC (hw : w = 8 ∨ w = 19) : FC w A (LA A w k i S q) := fun j hj => LA_ne (by omega)
theorem x_addLot (hw : w = 8 ∨ w = 19) (hC : CW A w lc lt) (hs : s < 16) (hd : d < 8) (hq : q < 16) (hl : lc (s * 8 + d) < 4) (hb : bi (setI (lt (s * 8 + d)) (lc (s * 8 + d))) q = false) : evM 70 [.ref w, .int (nI s), .int (nI d), .int (nI q)] (G b u v A τ) = some (some (.int 1), G b u v (LA A w (s * 8 + d) (lc (s * 8 + d)) (setI (lt (s * 8 + d)) (lc (s * 8 + d))) q) τ) := by
  obtain ⟨h1, h2, h3⟩ := hC (s * 8 + d) (by omega)
  have hwi : (0 : Int32) ≤ nI (lc (s * 8 + d)) ∧ nI (lc (s * 8 + d)) ≤ 3 := ⟨(nI_leI (a := 0) (by decide) (by omega)).2 (Nat.zero_le _), (nI_leI (b := 3) (by omega) (by decide)).2 (by omega)⟩
  have e1 : up A (w + 3) (upd (A (w + 3)) ((s * 8 + d) * 4 + lc (s * 8 + d)) (nI q)) (w + 1) = A (w + 1) := up_ne (by omega)
  have e2 : up (up A (w + 3) (upd (A (w + 3)) ((s * 8 + d) * 4 + lc (s * 8 + d)) (nI q))) (w + 1) (upd (A (w + 1)) (s * 8 + d) (nI (lc (s * 8 + d) + 1))) (w + 2) = A (w + 2) := by rw [up_ne (by omega), up_ne (by omega)]
  simp (disch := first | omega | assumption | exact Nat.le_of_ble_eq_true rfl) only [m70, e70_0, e70_1, e70_2, e70_5i, e70_5n, e70_5r, e70_7, e70_9, e70_12, e70_13, e70_16, e70_19, e70_20, e70_23, e70_25, e70_26, e70_27, e70_28, e70_31, e70_34, e70_35, e70_38, e70_40, e70_41, e70_42, e70_45, e70_48, e70_49b0, e70_49b1, e70_50, e70_51, e70_54, e70_56, e70_57, e70_58, e70_59, e70_62, e70_64, e70_65, e70_66, e70_67, e70_68, e70_69, e70_72, e70_74, e70_75, e70_76, e70_77, e70_78, e70_79, e70_80, e70_83, e70_85, e70_86, e70_87, e70_88, e70_89, e70_90, e70_91, e70_92, e70_93b0, e70_93b1, Bool.false_eq_true, Bool.true_eq_false, gfK, pfK, lnK, isC, alK_n, asK_n, List.getElem?_cons_zero, List.getElem?_cons_succ, List.set_cons_zero, List.set_cons_succ, List.length_cons, List.length_nil, ↓reduceIte, if_true, if_false, eq_self, and_true, true_and, and_self, Option.bind_some, Option.bind_none, Option.toList_some, Option.toList_none, List.cons_append, List.nil_append, mset_at, mset_ne, mset_2, mset_mset, Nat.reduceLT, Nat.reduceAdd, W_wayOf hs hd, R_isState hq, nz1, G_W0 hw, G_W1 hw, G_W2 hw, G_W3 hw, S_W1 hw, S_W2 hw, S_W3 hw, nI_not_neg, h1, h2, R_within, hwi, R_bitI, hb, bI_f, rm_4, nI_addN, nI_succ', bit_def, e1, e2, LA]
theorem x_addLotF (hw : w = 8 ∨ w = 19) (hC : CW A w lc lt) (hs : s < 16) (hd : d < 8) (hq : q < 16) (hl : lc (s * 8 + d) < 4) (hb : bi (setI (lt (s * 8 + d)) (lc (s * 8 + d))) q = true) : evM 70 [.ref w, .int (nI s), .int (nI d), .int (nI q)] (G b u v A τ) = some (some (.int 0), (G b u v A τ)) := by
  obtain ⟨h1, h2, h3⟩ := hC (s * 8 + d) (by omega)
  have hwi : (0 : Int32) ≤ nI (lc (s * 8 + d)) ∧ nI (lc (s * 8 + d)) ≤ 3 := ⟨(nI_leI (a := 0) (by decide) (by omega)).2 (Nat.zero_le _), (nI_leI (b := 3) (by omega) (by decide)).2 (by omega)⟩
  simp (disch := first | omega | assumption | exact Nat.le_of_ble_eq_true rfl) only [m70, e70_0, e70_1, e70_2, e70_5i, e70_5n, e70_5r, e70_7, e70_9, e70_12, e70_13, e70_16, e70_19, e70_20, e70_23, e70_25, e70_26, e70_27, e70_28, e70_31, e70_34, e70_35, e70_38, e70_40, e70_41, e70_42, e70_45, e70_48, e70_49b0, e70_49b1, e70_50, e70_51, e70_54, e70_56, e70_57, e70_58, e70_59, e70_62, e70_64, e70_65, e70_66, e70_67, e70_68, e70_69, e70_72, e70_74, e70_75, e70_76, e70_77, e70_78, e70_79, e70_80, e70_83, e70_85, e70_86, e70_87, e70_88, e70_89, e70_90, e70_91, e70_92, e70_93b0, e70_93b1, Bool.false_eq_true, Bool.true_eq_false, gfK, pfK, lnK, isC, alK_n, asK_n, List.getElem?_cons_zero, List.getElem?_cons_succ, List.set_cons_zero, List.set_cons_succ, List.length_cons, List.length_nil, ↓reduceIte, if_true, if_false, eq_self, and_true, true_and, and_self, Option.bind_some, Option.bind_none, Option.toList_some, Option.toList_none, List.cons_append, List.nil_append, mset_at, mset_ne, mset_2, mset_mset, Nat.reduceLT, Nat.reduceAdd, W_wayOf hs hd, R_isState hq, nz1, G_W0 hw, G_W1 hw, G_W2 hw, G_W3 hw, nI_not_neg, h1, h2, R_within, hwi, R_bitI, hb, bI_t]
theorem setI_set1 {f : Nat → Nat} {m : Nat} : setI (set1 f m q) (m + 1) = setI f m ||| bit q := by
  rw [setI, set1_at, setI_congr m (fun i hi => set1_ne (by omega))]
theorem CD_LA (hw : w = 8 ∨ w = 19) (hW : WF lc lt) (hk : k < 128) (hl : lc k < 4) (hC : CD A w lc lt nw nb fr to st) : CD (LA A w k (lc k) (setI (lt k) (lc k)) q) w (set1 lc k (lc k + 1)) (set1 lt k (set1 (lt k) (lc k) q)) nw nb fr to st := by
  obtain ⟨c1, c2, ⟨c3, c4⟩, c5, c6, c7⟩ := hC
  have e0 : LA A w k (lc k) (setI (lt k) (lc k)) q w = A w := LA_ne (by omega)
  refine ⟨fun j hj => ?_, by rw [e0]; exact c2, ⟨by rw [e0]; exact c3, fun j hj => ?_⟩, by rw [e0]; exact c5, by rw [e0]; exact c6, by rw [e0]; exact c7⟩
  · rw [LA_1, LA_2, LA_3]
    by_cases e : j = k
    · subst e
      rw [upd_at, upd_at, set1_at, set1_at, setI_set1]
      refine ⟨rfl, rfl, fun i hi => ?_⟩
      by_cases ei : i = lc j
      · rw [ei, upd_at, set1_at]
      · rw [upd_ne (by omega), set1_ne ei]
        exact (c1 j hj).2.2 i (by omega)
    · rw [upd_ne e, upd_ne e, set1_ne e, set1_ne e]
      refine ⟨(c1 j hj).1, (c1 j hj).2.1, fun i hi => ?_⟩
      have := (hW j hj).1
      rw [upd_ne (by omega)]
      exact (c1 j hj).2.2 i hi
  · rw [LA_ne (by omega), LA_ne (by omega)]
    exact c4 j hj
theorem WF_set1 (hW : WF lc lt) (hl : lc k < 4) (hq : q < 16) : WF (set1 lc k (lc k + 1)) (set1 lt k (set1 (lt k) (lc k) q)) := fun j hj => by
  by_cases e : j = k
  · subst e
    rw [set1_at, set1_at]
    refine ⟨by omega, fun i hi => ?_⟩
    by_cases ei : i = lc j
    · rw [ei, set1_at]
      exact hq
    · rw [set1_ne ei]
      exact (hW j hj).2 i (by omega)
  · rw [set1_ne e, set1_ne e]
    exact hW j hj
/-- a state put to one of the three sets -/
theorem x_addState (hw : w = 8 ∨ w = 19) (hC : CD A w lc lt nw nb fr to st) (hs : s < 3) (hq : q < 16) : ∃ A', evM 71 [.ref w, .int (nI (s + 3)), .int (nI q)] (G b u v A τ) = some (none, G b u v A' τ) ∧ CD A' w lc lt nw nb fr to (set1 st s (st s ||| bit q)) ∧ ∀ k, k ≠ w → A' k = A k := by
  obtain ⟨c1, c2, ⟨c3, c4⟩, c5, c6, c7⟩ := hC
  have hst : ∀ A' : Nat → Nat → Int32, (∀ k, k ≠ w → A' k = A k) → A' w 0 = A w 0 → A' w 1 = A w 1 → A' w 2 = set1 st s (st s ||| bit q) 0 → A' w 3 = set1 st s (st s ||| bit q) 1 → A' w 4 = set1 st s (st s ||| bit q) 2 → CD A' w lc lt nw nb fr to (set1 st s (st s ||| bit q)) := by
    intro A' h h0 h1 h2 h3 h4
    refine ⟨fun k hk => ?_, h0.trans c2, ⟨h1.trans c3, fun j hj => ?_⟩, h2, h3, h4⟩
    · rw [h (w + 1) (by omega), h (w + 2) (by omega), h (w + 3) (by omega)]
      exact c1 k hk
    · rw [h (w + 4) (by omega), h (w + 5) (by omega)]
      exact c4 j hj
  rcases (show s = 0 ∨ s = 1 ∨ s = 2 by omega) with rfl | rfl | rfl
  · refine ⟨FW A w (A w 0) (A w 1) (st 0 ||| bit q) (A w 3) (A w 4), ?_, hst _ (fun k hk => FW_ne hk) (by rw [FW_w]; rfl) (by rw [FW_w]; rfl) (by rw [FW_w]; rfl) (by rw [FW_w]; exact c6) (by rw [FW_w]; exact c7), fun k hk => FW_ne hk⟩
    simp (disch := first | omega | assumption | exact Nat.le_of_ble_eq_true rfl) only [m71, e71_0, e71_1, e71_4, e71_7, e71_8, e71_9, e71_10, e71_13, e71_14i, e71_14n, e71_14r, e71_15, e71_16, e71_17, e71_20, e71_21i, e71_21r, e71_22, e71_25, e71_26, e71_27, e71_30, e71_33, e71_34, e71_35, e71_38, e71_39i, e71_39r, e71_40, e71_43, e71_44, e71_45, e71_48, e71_51, e71_52i, e71_52r, e71_53, e71_56, e71_57, e71_58, e71_61, Bool.false_eq_true, Bool.true_eq_false, gfK, pfK, lnK, isC, alK_n, asK_n, List.getElem?_cons_zero, List.getElem?_cons_succ, List.set_cons_zero, List.set_cons_succ, List.length_cons, List.length_nil, ↓reduceIte, if_true, if_false, eq_self, and_true, true_and, and_self, Option.bind_some, Option.bind_none, Option.toList_some, Option.toList_none, List.cons_append, List.nil_append, mset_at, mset_ne, mset_2, mset_mset, Nat.reduceLT, Nat.reduceAdd, R_isState hq, nz1, bit_def, G_W0 hw, S_W0 hw, show nI (0 + 3) = 3 from rfl, c5, FW]
  · refine ⟨FW A w (A w 0) (A w 1) (A w 2) (st 1 ||| bit q) (A w 4), ?_, hst _ (fun k hk => FW_ne hk) (by rw [FW_w]; rfl) (by rw [FW_w]; rfl) (by rw [FW_w]; exact c5) (by rw [FW_w]; rfl) (by rw [FW_w]; exact c7), fun k hk => FW_ne hk⟩
    simp (disch := first | omega | assumption | exact Nat.le_of_ble_eq_true rfl) only [m71, e71_0, e71_1, e71_4, e71_7, e71_8, e71_9, e71_10, e71_13, e71_14i, e71_14n, e71_14r, e71_15, e71_16, e71_17, e71_20, e71_21i, e71_21r, e71_22, e71_25, e71_26, e71_27, e71_30, e71_33, e71_34, e71_35, e71_38, e71_39i, e71_39r, e71_40, e71_43, e71_44, e71_45, e71_48, e71_51, e71_52i, e71_52r, e71_53, e71_56, e71_57, e71_58, e71_61, Bool.false_eq_true, Bool.true_eq_false, gfK, pfK, lnK, isC, alK_n, asK_n, List.getElem?_cons_zero, List.getElem?_cons_succ, List.set_cons_zero, List.set_cons_succ, List.length_cons, List.length_nil, ↓reduceIte, if_true, if_false, eq_self, and_true, true_and, and_self, Option.bind_some, Option.bind_none, Option.toList_some, Option.toList_none, List.cons_append, List.nil_append, mset_at, mset_ne, mset_2, mset_mset, Nat.reduceLT, Nat.reduceAdd, R_isState hq, nz1, bit_def, G_W0 hw, S_W0 hw, show nI (1 + 3) = 4 from rfl, show ¬ (4 : Int32) = 3 from by decide, c6, FW]
  · refine ⟨FW A w (A w 0) (A w 1) (A w 2) (A w 3) (st 2 ||| bit q), ?_, hst _ (fun k hk => FW_ne hk) (by rw [FW_w]; rfl) (by rw [FW_w]; rfl) (by rw [FW_w]; exact c5) (by rw [FW_w]; exact c6) (by rw [FW_w]; rfl), fun k hk => FW_ne hk⟩
    simp (disch := first | omega | assumption | exact Nat.le_of_ble_eq_true rfl) only [m71, e71_0, e71_1, e71_4, e71_7, e71_8, e71_9, e71_10, e71_13, e71_14i, e71_14n, e71_14r, e71_15, e71_16, e71_17, e71_20, e71_21i, e71_21r, e71_22, e71_25, e71_26, e71_27, e71_30, e71_33, e71_34, e71_35, e71_38, e71_39i, e71_39r, e71_40, e71_43, e71_44, e71_45, e71_48, e71_51, e71_52i, e71_52r, e71_53, e71_56, e71_57, e71_58, e71_61, Bool.false_eq_true, Bool.true_eq_false, gfK, pfK, lnK, isC, alK_n, asK_n, List.getElem?_cons_zero, List.getElem?_cons_succ, List.set_cons_zero, List.set_cons_succ, List.length_cons, List.length_nil, ↓reduceIte, if_true, if_false, eq_self, and_true, true_and, and_self, Option.bind_some, Option.bind_none, Option.toList_some, Option.toList_none, List.cons_append, List.nil_append, mset_at, mset_ne, mset_2, mset_mset, Nat.reduceLT, Nat.reduceAdd, R_isState hq, nz1, bit_def, G_W0 hw, S_W0 hw, show nI (2 + 3) = 5 from rfl, show ¬ (5 : Int32) = 3 from by decide, show ¬ (5 : Int32) = 4 from by decide, c7, FW]
theorem x_addBar (hw : w = 8 ∨ w = 19) (hC : CD A w lc lt nw nb fr to st) (hb : nb < 10) : ∃ A', evM 72 [.ref w, .int (nI p), .int (nI q)] (G b u v A τ) = some (none, G b u v A' τ) ∧ CD A' w lc lt nw (nb + 1) (set1 fr nb p) (set1 to nb q) st ∧ FC w A A' ∧ ∀ k, 4 ≤ k → k ≤ 7 → A' k = A k := by
  obtain ⟨c1, c2, ⟨c3, c4⟩, c5, c6, c7⟩ := hC
  refine ⟨up (up (up A (w + 4) (upd (A (w + 4)) nb (nI p))) (w + 5) (upd (A (w + 5)) nb (nI q))) w (fL [A w 0, nI (nb + 1), A w 2, A w 3, A w 4, A w 5, A w 6]), ?_, ⟨fun k hk => ?_, ?_, ⟨?_, fun j hj => ?_⟩, ?_, ?_, ?_⟩, fun k hk => ?_, fun k h4 h7 => ?_⟩
  · have e1 : up A (w + 4) (upd (A (w + 4)) nb (nI p)) (w + 5) = A (w + 5) := up_ne (by omega)
    have e2 : up (up A (w + 4) (upd (A (w + 4)) nb (nI p))) (w + 5) (upd (A (w + 5)) nb (nI q)) w = A w := by rw [up_ne (by omega), up_ne (by omega)]
    have e3 : up A (w + 4) (upd (A (w + 4)) nb (nI p)) w = A w := up_ne (by omega)
    simp (disch := first | omega | assumption | exact Nat.le_of_ble_eq_true rfl) only [m72, e72_0, e72_1, e72_4, e72_7, e72_8, e72_11, e72_13, e72_16, e72_17, e72_20, e72_21, e72_24, e72_25, e72_26, e72_27, e72_30, e72_31, e72_34, e72_35, e72_36, e72_37i, e72_37r, e72_38, e72_41, e72_42, e72_43, e72_46, Bool.false_eq_true, Bool.true_eq_false, gfK, pfK, lnK, isC, alK_n, asK_n, List.getElem?_cons_zero, List.getElem?_cons_succ, List.set_cons_zero, List.set_cons_succ, List.length_cons, List.length_nil, ↓reduceIte, if_true, if_false, eq_self, and_true, true_and, and_self, Option.bind_some, Option.bind_none, Option.toList_some, Option.toList_none, List.cons_append, List.nil_append, mset_at, mset_ne, mset_2, mset_mset, Nat.reduceLT, Nat.reduceAdd, G_W0 hw, S_W0 hw, G_W4 hw, S_W4 hw, G_W5 hw, S_W5 hw, c3, nI_not_neg, le_10, show ¬ 10 ≤ nb from by omega, e1, e2, e3, nI_succ']
  · rw [up_ne (by omega), up_ne (by omega), up_ne (by omega), up_ne (by omega), up_ne (by omega), up_ne (by omega), up_ne (by omega), up_ne (by omega), up_ne (by omega)]
    exact c1 k hk
  · rw [up_at]; exact c2
  · rw [up_at]; rfl
  · rw [up_ne (by omega), up_ne (by omega), up_at, up_ne (by omega), up_at]
    by_cases e : j = nb
    · rw [e, upd_at, upd_at, set1_at, set1_at]
      exact ⟨rfl, rfl⟩
    · rw [upd_ne e, upd_ne e, set1_ne e, set1_ne e]
      exact c4 j (by omega)
  · rw [up_at]; exact c5
  · rw [up_at]; exact c6
  · rw [up_at]; exact c7
  · rw [up_ne (by omega), up_ne (by omega), up_ne (by omega)]
  · rw [up_ne (by omega), up_ne (by omega), up_ne (by omega)]
theorem x_empty_loop (hw : w = 8 ∨ w = 19) : ∀ (f i : Nat) (A : Nat → Nat → Int32), i + f = 128 → (∀ j, j < i → A (w + 1) j = 0 ∧ A (w + 2) j = 0) → ∃ A', ev 69 2 [some (.ref w), some (.int (nI i))] [] (G b u v A τ) = ev 69 29 [some (.ref w), some (.int (nI 128))] [] (G b u v A' τ) ∧ (∀ j, j < 128 → A' (w + 1) j = 0 ∧ A' (w + 2) j = 0) ∧ ∀ k, k ≠ w + 1 → k ≠ w + 2 → A' k = A k
  | 0, i, A, hi, hz => by
    have : i = 128 := by omega
    subst this
    refine ⟨A, ?_, hz, fun k _ _ => rfl⟩
    rw [e69_2]
    simp (disch := first | omega | assumption | exact Nat.le_of_ble_eq_true rfl) only [m69, e69_3, e69_6, Bool.false_eq_true, Bool.true_eq_false, gfK, pfK, lnK, isC, alK_n, asK_n, List.getElem?_cons_zero, List.getElem?_cons_succ, List.set_cons_zero, List.set_cons_succ, List.length_cons, List.length_nil, ↓reduceIte, if_true, if_false, eq_self, and_true, true_and, and_self, Option.bind_some, Option.bind_none, Option.toList_some, Option.toList_none, List.cons_append, List.nil_append, mset_at, mset_ne, mset_2, mset_mset, Nat.reduceLT, Nat.reduceAdd, show (128 : Int32) ≤ nI 128 from by decide]
  | f + 1, i, A, hi, hz => by
    have e1 : up A (w + 1) (upd (A (w + 1)) i 0) (w + 2) = A (w + 2) := up_ne (by omega)
    obtain ⟨A', h1, h2, h3⟩ := x_empty_loop hw f (i + 1) (up (up A (w + 1) (upd (A (w + 1)) i 0)) (w + 2) (upd (A (w + 2)) i 0)) (by omega) (fun j hj => by
      rw [up_ne (by omega), up_at, up_at]
      by_cases e : j = i
      · rw [e, upd_at, upd_at]
        exact ⟨rfl, rfl⟩
      · rw [upd_ne e, upd_ne e]
        exact hz j (by omega))
    refine ⟨A', ?_, h2, fun k a c => by rw [h3 k a c, up_ne c, up_ne a]⟩
    have h8 : ¬ (128 : Int32) ≤ nI i := fun q => by have := (nI_leI (a := 128) (b := i) (by decide) (by omega)).1 q; omega
    rw [e69_2]
    simp (disch := first | omega | assumption | exact Nat.le_of_ble_eq_true rfl) only [m69, e69_3, e69_6, e69_9, e69_10, e69_13, e69_14, e69_15, e69_16, e69_17, e69_20, e69_21, e69_22, e69_23i, e69_23n, e69_23r, e69_26, Bool.false_eq_true, Bool.true_eq_false, gfK, pfK, lnK, isC, alK_n, asK_n, List.getElem?_cons_zero, List.getElem?_cons_succ, List.set_cons_zero, List.set_cons_succ, List.length_cons, List.length_nil, ↓reduceIte, if_true, if_false, eq_self, and_true, true_and, and_self, Option.bind_some, Option.bind_none, Option.toList_some, Option.toList_none, List.cons_append, List.nil_append, mset_at, mset_ne, mset_2, mset_mset, Nat.reduceLT, Nat.reduceAdd, h8, G_W0 hw, G_W1 hw, S_W1 hw, G_W2 hw, S_W2 hw, e1, nI_succ', h1]
theorem x_empty (hw : w = 8 ∨ w = 19) : ∃ A', evM 69 [.ref w] (G b u v A τ) = some (none, G b u v A' τ) ∧ CD A' w (fun _ => 0) (fun _ _ => 0) 0 0 (fun _ => 0) (fun _ => 0) (fun _ => 0) ∧ FC w A A' ∧ ∀ k, 4 ≤ k → k ≤ 7 → A' k = A k := by
  obtain ⟨A', h1, h2, h3⟩ := x_empty_loop (b := b) (u := u) (v := v) (τ := τ) hw 128 0 A rfl (fun j hj => absurd hj (by omega))
  have h1' : ev 69 2 [some (.ref w), some (.int 0)] [] (G b u v A τ) = _ := h1
  refine ⟨FW A' w 0 0 0 0 0, ?_, ⟨fun k hk => ?_, by rw [FW_w]; rfl, ⟨by rw [FW_w]; rfl, fun j hj => absurd hj (by omega)⟩, by rw [FW_w]; rfl, by rw [FW_w]; rfl, by rw [FW_w]; rfl⟩, fun k hk => ?_, fun k h4 h7 => ?_⟩
  · simp (disch := first | omega | assumption | exact Nat.le_of_ble_eq_true rfl) only [m69, e69_0, e69_1i, e69_1n, e69_1r, e69_3, e69_6, e69_9, e69_10, e69_13, e69_14, e69_15, e69_16, e69_17, e69_20, e69_21, e69_22, e69_23i, e69_23n, e69_23r, e69_26, e69_29, e69_30, e69_31, e69_34, e69_35, e69_36, e69_39, e69_40, e69_41, e69_44, e69_45, e69_46, e69_49, e69_50, e69_51, e69_54, Bool.false_eq_true, Bool.true_eq_false, gfK, pfK, lnK, isC, alK_n, asK_n, List.getElem?_cons_zero, List.getElem?_cons_succ, List.set_cons_zero, List.set_cons_succ, List.length_cons, List.length_nil, ↓reduceIte, if_true, if_false, eq_self, and_true, true_and, and_self, Option.bind_some, Option.bind_none, Option.toList_some, Option.toList_none, List.cons_append, List.nil_append, mset_at, mset_ne, mset_2, mset_mset, Nat.reduceLT, Nat.reduceAdd, h1', G_W0 hw, S_W0 hw, up_at, up_up, fL_0, fL_s, FW]
  · rw [FW_ne (by omega), FW_ne (by omega), FW_ne (by omega)]
    exact ⟨(h2 k hk).1, (h2 k hk).2, fun i hi => absurd hi (Nat.not_lt_zero i)⟩
  · rw [FW_ne (by omega)]
    exact h3 k (by omega) (by omega)
  · rw [FW_ne (by omega)]
    exact h3 k (by omega) (by omega)
end XDRAFT
