/-! READING a row of states, a bar. -/
section ITEMS
variable {b w : Nat} {u v : Int64} {A B : Nat → Nat → Int32} {τ : Nat × Nat × Nat × (Nat → Int32)} {lc : Nat → Nat} {lt : Nat → Nat → Nat} {fr to : Nat → Nat} {st : Nat → Int32} {nw nb n i j p e c k q s d z : Nat} {t : Nat → Nat} {x y S n0 tk pl va fa dw db : Int32} {σ : mS} {l1 l2 l3 l4 l5 : Option Value}
theorem G_RD64 : (G b u v (RD A n0 tk pl va fa dw db) τ).1 64 = some (.inl (0, 3, A 64)) := rfl
theorem S_RD64 {f : Nat → Int32} : mset (G b u v (RD A n0 tk pl va fa dw db) τ) 64 (.inl (0, 3, f)) = G b u v (RD (up A 64 f) n0 tk pl va fa dw db) τ := S_64.trans (congrArg (fun X => G b u v X τ) (RD_up (by omega)))
theorem G_RD63 : (G b u v (RD A n0 tk pl va fa dw db) τ).1 63 = some (.inl (0, 40, A 63)) := rfl
theorem S_RD63 {f : Nat → Int32} : mset (G b u v (RD A n0 tk pl va fa dw db) τ) 63 (.inl (0, 40, f)) = G b u v (RD (up A 63 f) n0 tk pl va fa dw db) τ := S_63.trans (congrArg (fun X => G b u v X τ) (RD_up (by omega)))
theorem S_RD63uu {f g : Nat → Int32} {x2 x3 x4 x5 x6 x12 x13 : Int32} : mset (G b u v (RD (up (up A 63 f) 63 g) n0 tk pl va fa dw db) τ) 60 (.inr (8, [.int (A 60 0), .long v, .ref 61, .int (A 60 1), .int x2, .int x3, .int x4, .int x5, .int x6, .int (A 60 7), .ref 62, .int (A 60 8), .int (A 60 9), .int (A 60 10), .int (A 60 11), .ref 63, .int x12, .int x13, .ref 64, .int (A 60 14), .int (A 60 15), .ref 65, .ref 66, .ref 67, .ref 68, .ref 69, .ref 70, .ref 71, .ref 72])) = G b u v (RD (up (up A 63 f) 63 g) x2 x3 x4 x5 x6 x12 x13) τ := S_RD
theorem FM_64 {f : Nat → Int32} : FM A (up A 64 f) := ⟨fun k a c d => up_ne d, fun j hj => by rw [up_ne (by omega)], fun j hj => by rw [up_ne (by omega)]⟩
theorem FM_63 {f : Nat → Int32} (h : ∀ j, j < 20 → f j = A 63 j) : FM A (up A 63 f) := ⟨fun k a c d => up_ne c, fun j hj => by rw [up_ne (by omega)], fun j hj => by rw [up_at]; exact h j hj⟩
theorem MD_row (hz : z < 3) (h : MD B lc lt nb fr to st) : MD (up B 64 (upd (B 64) z (st z ||| bit q))) lc lt nb fr to (set1 st z (st z ||| bit q)) := by
  obtain ⟨d1, d2, d3, d4, d5⟩ := h
  refine ⟨fun j hj => ?_, fun j hj => ?_, ?_⟩
  · rw [up_ne (by omega)]; exact d1 j hj
  · rw [up_ne (by omega)]; exact d2 j hj
  · rw [up_at]
    rcases (show z = 0 ∨ z = 1 ∨ z = 2 by omega) with rfl | rfl | rfl
    · exact ⟨rfl, d4, d5⟩
    · exact ⟨d3, rfl, d5⟩
    · exact ⟨d3, d4, rfl⟩
theorem MD_rows (hz : z < 3) (h : MD B lc lt nb fr to st) : B 64 z = st z := by
  rcases (show z = 0 ∨ z = 1 ∨ z = 2 by omega) with rfl | rfl | rfl
  · exact h.2.2.1
  · exact h.2.2.2.1
  · exact h.2.2.2.2
theorem DF_row (hz : z < 3) (hq : q < 16) (h : DF lc lt nw nb fr to st) : DF lc lt nw nb fr to (set1 st z (st z ||| bit q)) := by
  obtain ⟨d1, d2, d3, d4, d5, d6⟩ := h
  rcases (show z = 0 ∨ z = 1 ∨ z = 2 by omega) with rfl | rfl | rfl
  · exact ⟨d1, d2, d3, s16_or d4 (s16_bit hq), d5, d6⟩
  · exact ⟨d1, d2, d3, d4, s16_or d5 (s16_bit hq), d6⟩
  · exact ⟨d1, d2, d3, d4, d5, s16_or d6 (s16_bit hq)⟩
theorem yrow_x (hq : q < 2147483648) : ev 158 79 [some (.ref 60), l1, l2, l3] [] (G b u v (RD A n0 tk pl va (nI q) dw db) τ) = some (none, G b u v (RD A n0 tk pl va (nI q) dw db) τ) := by
  simp (disch := first | omega | assumption | exact Nat.le_of_ble_eq_true rfl) only [m158, e158_79, e158_80, e158_82, e158_85, Bool.false_eq_true, Bool.true_eq_false, gfK, pfK, lnK, isC, alK_n, asK_n, List.getElem?_cons_zero, List.getElem?_cons_succ, List.set_cons_zero, List.set_cons_succ, List.length_cons, List.length_nil, ↓reduceIte, if_true, if_false, eq_self, and_true, true_and, and_self, Option.bind_some, Option.bind_none, Option.toList_some, Option.toList_none, List.cons_append, List.nil_append, mset_at, mset_ne, mset_2, mset_mset, Nat.reduceLT, Nat.reduceAdd, G_RD, y_sign_x hq]
theorem yrow_8x (hq : q < 2147483648) : ev 158 8 [some (.ref 60), l1, l2, some (.int 1)] [] (G b u v (RD A n0 tk pl va (nI q) dw db) τ) = some (none, G b u v (RD A n0 tk pl va (nI q) dw db) τ) := by
  have hx := fun l1 l2 l3 => yrow_x (b := b) (u := u) (v := v) (τ := τ) (A := A) (n0 := n0) (tk := tk) (pl := pl) (va := va) (dw := dw) (db := db) (l1 := l1) (l2 := l2) (l3 := l3) hq
  rw [e158_8]
  simp (disch := first | omega | assumption | exact Nat.le_of_ble_eq_true rfl) only [m158, e158_9, e158_12, e158_13, e158_16, e158_19, e158_20, e158_23, e158_24, e158_27, e158_28, e158_30, e158_33, e158_34, e158_37, e158_40, e158_41, e158_44, e158_45, e158_46, e158_47, e158_48, e158_49, e158_52, e158_53, e158_54, e158_55i, e158_55n, e158_55r, e158_58, e158_59, e158_62, e158_63, e158_66, e158_67, e158_70, e158_71, e158_74, e158_75i, e158_75n, e158_75r, e158_76, Bool.false_eq_true, Bool.true_eq_false, gfK, pfK, lnK, isC, alK_n, asK_n, List.getElem?_cons_zero, List.getElem?_cons_succ, List.set_cons_zero, List.set_cons_succ, List.length_cons, List.length_nil, ↓reduceIte, if_true, if_false, eq_self, and_true, true_and, and_self, Option.bind_some, Option.bind_none, Option.toList_some, Option.toList_none, List.cons_append, List.nil_append, mset_at, mset_ne, mset_2, mset_mset, Nat.reduceLT, Nat.reduceAdd, nz1, G_RD, y_ill hq, hx]
theorem row_end (hw : w = 8 ∨ w = 19) (hT : TX A n t) (hp : p ≤ n) (h : CAt A n t p) (hC : CD A w lc lt nw nb fr to st) (hD : DF lc lt nw nb fr to st) : ROk b u v τ w n t A p nw nb (ev 25 72 [some (.ref 3), some (.ref w), l2, l3] [] (G b u v A τ)) (fun B => MD B lc lt nb fr to st) (fun σ => ev 158 79 [some (.ref 60), l1, l4, l5] [] σ) ∨ RNo b u v τ w n t A p nw nb (ev 25 72 [some (.ref 3), some (.ref w), l2, l3] [] (G b u v A τ)) (fun B => MD B lc lt nb fr to st) (fun σ => ev 158 79 [some (.ref 60), l1, l4, l5] [] σ) := by
  by_cases h8 : tS t n p = 8
  · obtain ⟨A', h2, h3, h4⟩ := x_pass_t (b := b) (u := u) (v := v) (τ := τ) (x := 8) h (by rw [h8]; rfl)
    have hpn : p < n := by
      by_cases g : p = n
      · rw [g, tS_n] at h8
        omega
      · omega
    refine Or.inl ⟨A', nx t n p, lc, lt, nw, nb, fr, to, st, ?_, h3, CD_of (fun k a _ => h4 k (by omega)) hC, hD, nx_gt hpn, nx_le hp, FC_4 h4, fun b1 u1 v1 τ1 B tk va hB hM hX => ?_⟩
    · simp (disch := first | omega | assumption | exact Nat.le_of_ble_eq_true rfl) only [m25, e25_72, e25_73, e25_76, e25_78, e25_81b0, e25_81b1, Bool.false_eq_true, Bool.true_eq_false, gfK, pfK, lnK, isC, alK_n, asK_n, List.getElem?_cons_zero, List.getElem?_cons_succ, List.set_cons_zero, List.set_cons_succ, List.length_cons, List.length_nil, ↓reduceIte, if_true, if_false, eq_self, and_true, true_and, and_self, Option.bind_some, Option.bind_none, Option.toList_some, Option.toList_none, List.cons_append, List.nil_append, mset_at, mset_ne, mset_2, mset_mset, Nat.reduceLT, Nat.reduceAdd, G_3, G_4, h2]
    · obtain ⟨tk', va', g1, g2⟩ := y_semi (b := b1) (u := u1) (v := v1) (τ := τ1) (dw := nI nw) (db := nI nb) hB hp hM h8
      refine ⟨B, tk', va', ?_, g2, hX, FM_rf⟩
      unfold YS at g1 ⊢
      simp (disch := first | omega | assumption | exact Nat.le_of_ble_eq_true rfl) only [m158, e158_79, e158_80, e158_82, e158_85, Bool.false_eq_true, Bool.true_eq_false, gfK, pfK, lnK, isC, alK_n, asK_n, List.getElem?_cons_zero, List.getElem?_cons_succ, List.set_cons_zero, List.set_cons_succ, List.length_cons, List.length_nil, ↓reduceIte, if_true, if_false, eq_self, and_true, true_and, and_self, Option.bind_some, Option.bind_none, Option.toList_some, Option.toList_none, List.cons_append, List.nil_append, mset_at, mset_ne, mset_2, mset_mset, Nat.reduceLT, Nat.reduceAdd, G_RD, g1]
  · have h2 := x_pass_f (b := b) (u := u) (v := v) (τ := τ) (x := 8) h (tS_ne h8 (by decide))
    refine Or.inr ⟨A, p, ?_, h, hp, FC_rf, fun b1 u1 v1 τ1 B tk va hB hM hX => ⟨B, nI (ed t n p), tk, nI p, va, nI nw, nI nb, ?_, FM_rf⟩⟩
    · simp (disch := first | omega | assumption | exact Nat.le_of_ble_eq_true rfl) only [m25, e25_72, e25_73, e25_76, e25_78, e25_81b0, e25_81b1, Bool.false_eq_true, Bool.true_eq_false, gfK, pfK, lnK, isC, alK_n, asK_n, List.getElem?_cons_zero, List.getElem?_cons_succ, List.set_cons_zero, List.set_cons_succ, List.length_cons, List.length_nil, ↓reduceIte, if_true, if_false, eq_self, and_true, true_and, and_self, Option.bind_some, Option.bind_none, Option.toList_some, Option.toList_none, List.cons_append, List.nil_append, mset_at, mset_ne, mset_2, mset_mset, Nat.reduceLT, Nat.reduceAdd, G_3, G_4, h2]
    · have g1 := y_semiF (b := b1) (u := u1) (v := v1) (τ := τ1) (A := B) (n0 := nI (ed t n p)) (pl := nI p) (dw := nI nw) (db := nI nb) hM h8
      unfold YS
      simp (disch := first | omega | assumption | exact Nat.le_of_ble_eq_true rfl) only [m158, e158_79, e158_80, e158_82, e158_85, Bool.false_eq_true, Bool.true_eq_false, gfK, pfK, lnK, isC, alK_n, asK_n, List.getElem?_cons_zero, List.getElem?_cons_succ, List.set_cons_zero, List.set_cons_succ, List.length_cons, List.length_nil, ↓reduceIte, if_true, if_false, eq_self, and_true, true_and, and_self, Option.bind_some, Option.bind_none, Option.toList_some, Option.toList_none, List.cons_append, List.nil_append, mset_at, mset_ne, mset_2, mset_mset, Nat.reduceLT, Nat.reduceAdd, G_RD, g1]
theorem row_loop (hw : w = 8 ∨ w = 19) (hz : z < 3) : ∀ (r i p : Nat) (A : Nat → Nat → Int32) (st : Nat → Int32), i + r = 16 → TX A n t → p ≤ n → CAt A n t p → CD A w lc lt nw nb fr to st → DF lc lt nw nb fr to st → ROk b u v τ w n t A p nw nb (ev 25 30 [some (.ref 3), some (.ref w), some (.int (nI (z + 3))), some (.int (nI i))] [] (G b u v A τ)) (fun B => MD B lc lt nb fr to st) (fun σ => ev 158 8 [some (.ref 60), some (.int (nI z)), some (.int (nI i)), some (.int (bI (decide (tS t n p = 1))))] [] σ) ∨ RNo b u v τ w n t A p nw nb (ev 25 30 [some (.ref 3), some (.ref w), some (.int (nI (z + 3))), some (.int (nI i))] [] (G b u v A τ)) (fun B => MD B lc lt nb fr to st) (fun σ => ev 158 8 [some (.ref 60), some (.int (nI z)), some (.int (nI i)), some (.int (bI (decide (tS t n p = 1))))] [] σ)
  | r, i, p, A, st, hr, hT, hp, h, hC, hD => by
    have h9 := hT.1
    by_cases h1 : tS t n p = 1
    · rw [decide_eq_true h1, bI_t]
      have hq := tV_1 h1
      obtain ⟨q, hqd⟩ : ∃ q, q = tV t n p := ⟨_, rfl⟩
      have hso := x_sort (b := b) (u := u) (v := v) (τ := τ) h
      have hva := x_value (b := b) (u := u) (v := v) (τ := τ) h
      rw [h1, show nI 1 = 1 from rfl] at hso
      rw [cV_tV (Or.inl h1), ← hqd] at hva
      rw [← hqd] at hq
      match r, hr with
      | 0, hr =>
        have hi4 : i = 16 := by omega
        subst hi4
        have h2 := x_pass_f (b := b) (u := u) (v := v) (τ := τ) (x := 8) h (tS_ne (k := 8) (by omega) (by decide))
        refine Or.inr ⟨A, p, ?_, h, hp, FC_rf, fun b1 u1 v1 τ1 B tk va hB hM hX => ⟨B, nI (ed t n p), tk, nI p, va, nI nw, nI nb, ?_, FM_rf⟩⟩
        · rw [e25_30]
          simp (disch := first | omega | assumption | exact Nat.le_of_ble_eq_true rfl) only [m25, e25_31, e25_33, e25_36, e25_37, e25_40, e25_43, e25_44, e25_47, e25_48, e25_49, e25_50, e25_53, e25_56, e25_59, e25_60, e25_63, e25_66i, e25_66n, e25_66r, e25_69, e25_72, e25_73, e25_76, e25_78, e25_81b0, e25_81b1, Bool.false_eq_true, Bool.true_eq_false, gfK, pfK, lnK, isC, alK_n, asK_n, List.getElem?_cons_zero, List.getElem?_cons_succ, List.set_cons_zero, List.set_cons_succ, List.length_cons, List.length_nil, ↓reduceIte, if_true, if_false, eq_self, and_true, true_and, and_self, Option.bind_some, Option.bind_none, Option.toList_some, Option.toList_none, List.cons_append, List.nil_append, mset_at, mset_ne, mset_2, mset_mset, Nat.reduceLT, Nat.reduceAdd, show (16 : Int32) ≤ nI 16 from by decide, G_3, G_4, h2]
        · have h3 := (tk_3 hM).symm ▸ h1
          have hx := yrow_8x (b := b1) (u := u1) (v := v1) (τ := τ1) (A := B) (n0 := nI (ed t n p)) (tk := tk) (pl := nI p) (va := va) (dw := nI nw) (db := nI nb) (l1 := some (.int (nI z))) (l2 := some (.int (nI 16))) (show p < 2147483648 by omega)
          unfold YS
          simp only []
          rw [e158_8]
          simp (disch := first | omega | assumption | exact Nat.le_of_ble_eq_true rfl) only [m158, e158_9, e158_12, e158_13, e158_16, e158_19, e158_20, e158_23, e158_24, e158_27, e158_28, e158_30, e158_33, e158_34, e158_37, e158_40, e158_41, e158_44, e158_45, e158_46, e158_47, e158_48, e158_49, e158_52, e158_53, e158_54, e158_55i, e158_55n, e158_55r, e158_58, e158_59, e158_62, e158_63, e158_66, e158_67, e158_70, e158_71, e158_74, e158_75i, e158_75n, e158_75r, e158_76, Bool.false_eq_true, Bool.true_eq_false, gfK, pfK, lnK, isC, alK_n, asK_n, List.getElem?_cons_zero, List.getElem?_cons_succ, List.set_cons_zero, List.set_cons_succ, List.length_cons, List.length_nil, ↓reduceIte, if_true, if_false, eq_self, and_true, true_and, and_self, Option.bind_some, Option.bind_none, Option.toList_some, Option.toList_none, List.cons_append, List.nil_append, mset_at, mset_ne, mset_2, mset_mset, Nat.reduceLT, Nat.reduceAdd, nz1, G_RD, y_well, eq_true h3, eq_true (show nI 16 = 16 from rfl), y_fails, hx]
      | r + 1, hr =>
        have h4 : ¬ 16 ≤ i := by omega
        have hi4 : ¬ nI i = 16 := fun g => by have := nI_inj (i := i) (j := 16) (by omega) (by decide) g; omega
        obtain ⟨A0, ha, hC1, f0⟩ := x_addState (b := b) (u := u) (v := v) (τ := τ) (q := q) hw hC hz hq
        have h5 : CAt A0 n t p := CAt_of (fun j a c => f0 j (by omega)) h
        obtain ⟨A1, k1, k2, k3⟩ := x_step (b := b) (u := u) (v := v) (τ := τ) h5
        have hF : FC w A A1 := FC_tr (fun k hk => f0 k (by omega)) (FC_4 k3)
        have hC2 := CD_of (A' := A1) (fun k a c => k3 k (by omega)) hC1
        have hpn : p < n := by
          by_cases g : p = n
          · rw [g, tS_n] at h1
            omega
          · omega
        have ih := row_loop hw hz r (i + 1) (nx t n p) A1 _ (by omega) (TX_FC hw hF hT) (nx_le hp) k2 hC2 (DF_row hz hq hD)
        have hec : ev 25 30 [some (.ref 3), some (.ref w), some (.int (nI (z + 3))), some (.int (nI i))] [] (G b u v A τ) = ev 25 30 [some (.ref 3), some (.ref w), some (.int (nI (z + 3))), some (.int (nI (i + 1)))] [] (G b u v A1 τ) := by
          rw [e25_30]
          simp (disch := first | omega | assumption | exact Nat.le_of_ble_eq_true rfl) only [m25, e25_31, e25_33, e25_36, e25_37, e25_40, e25_43, e25_44, e25_47, e25_48, e25_49, e25_50, e25_53, e25_56, e25_59, e25_60, e25_63, e25_66i, e25_66n, e25_66r, e25_69, Bool.false_eq_true, Bool.true_eq_false, gfK, pfK, lnK, isC, alK_n, asK_n, List.getElem?_cons_zero, List.getElem?_cons_succ, List.set_cons_zero, List.set_cons_succ, List.length_cons, List.length_nil, ↓reduceIte, if_true, if_false, eq_self, and_true, true_and, and_self, Option.bind_some, Option.bind_none, Option.toList_some, Option.toList_none, List.cons_append, List.nil_append, mset_at, mset_ne, mset_2, mset_mset, Nat.reduceLT, Nat.reduceAdd, le_16, h4, G_3, G_4, G_W0 hw, hso, hva, ha, k1, nI_succ']
        have hem : ∀ (b1 : Nat) (u1 v1 : Int64) (τ1 : Nat × Nat × Nat × (Nat → Int32)) (B : Nat → Nat → Int32) (tk va : Int32), TY B n t → MTk t n p tk va → MD B lc lt nb fr to st → ∃ B' tk' va', TY B' n t ∧ MTk t n (nx t n p) tk' va' ∧ MD B' lc lt nb fr to (set1 st z (st z ||| bit q)) ∧ FM B B' ∧ ev 158 8 [some (.ref 60), some (.int (nI z)), some (.int (nI i)), some (.int 1)] [] (G b1 u1 v1 (YS B n t p tk va (-1) (nI nw) (nI nb)) τ1) = ev 158 8 [some (.ref 60), some (.int (nI z)), some (.int (nI (i + 1))), some (.int (bI (decide (tS t n (nx t n p) = 1))))] [] (G b1 u1 v1 (YS B' n t (nx t n p) tk' va' (-1) (nI nw) (nI nb)) τ1) := by
          intro b1 u1 v1 τ1 B tk va hB hM hX
          have hFM : FM B (up B 64 (upd (B 64) z (st z ||| bit q))) := FM_64
          have hB1 := TY_FM hFM hB
          obtain ⟨tk', va', g1, g2⟩ := y_step (b := b1) (u := u1) (v := v1) (τ := τ1) (tk := tk) (va := nI q) (fa := -1) (dw := nI nw) (db := nI nb) hB1 hp
          refine ⟨_, tk', va', hB1, g2, MD_row hz hX, hFM, ?_⟩
          have h3 := (tk_3 hM).symm ▸ h1
          have hv := hM.2.1 (Or.inl h1)
          have hr := MD_rows hz hX
          rw [← hqd] at hv
          rw [hv]
          unfold YS at g1 ⊢
          rw [e158_8]
          by_cases g3 : tS t n (nx t n p) = 1
          · have g4 := (tk_3 g2).symm ▸ g3
            rw [decide_eq_true g3, bI_t]
            simp (disch := first | omega | assumption | exact Nat.le_of_ble_eq_true rfl) only [m158, e158_9, e158_12, e158_13, e158_16, e158_19, e158_20, e158_23, e158_24, e158_27, e158_28, e158_30, e158_33, e158_34, e158_37, e158_40, e158_41, e158_44, e158_45, e158_46, e158_47, e158_48, e158_49, e158_52, e158_53, e158_54, e158_55i, e158_55n, e158_55r, e158_58, e158_59, e158_62, e158_63, e158_66, e158_67, e158_70, e158_71, e158_74, e158_75i, e158_75n, e158_75r, e158_76, Bool.false_eq_true, Bool.true_eq_false, gfK, pfK, lnK, isC, alK_n, asK_n, List.getElem?_cons_zero, List.getElem?_cons_succ, List.set_cons_zero, List.set_cons_succ, List.length_cons, List.length_nil, ↓reduceIte, if_true, if_false, eq_self, and_true, true_and, and_self, Option.bind_some, Option.bind_none, Option.toList_some, Option.toList_none, List.cons_append, List.nil_append, mset_at, mset_ne, mset_2, mset_mset, Nat.reduceLT, Nat.reduceAdd, nz1, G_RD, G_RD64, S_RD64, y_well, eq_true h3, hi4, bit_def, hr, nI_succ', g1, eq_true g4]
          · have g4 := (tk_3 g2) ▸ g3
            rw [decide_eq_false g3, bI_f]
            simp (disch := first | omega | assumption | exact Nat.le_of_ble_eq_true rfl) only [m158, e158_9, e158_12, e158_13, e158_16, e158_19, e158_20, e158_23, e158_24, e158_27, e158_28, e158_30, e158_33, e158_34, e158_37, e158_40, e158_41, e158_44, e158_45, e158_46, e158_47, e158_48, e158_49, e158_52, e158_53, e158_54, e158_55i, e158_55n, e158_55r, e158_58, e158_59, e158_62, e158_63, e158_66, e158_67, e158_70, e158_71, e158_74, e158_75i, e158_75n, e158_75r, e158_76, Bool.false_eq_true, Bool.true_eq_false, gfK, pfK, lnK, isC, alK_n, asK_n, List.getElem?_cons_zero, List.getElem?_cons_succ, List.set_cons_zero, List.set_cons_succ, List.length_cons, List.length_nil, ↓reduceIte, if_true, if_false, eq_self, and_true, true_and, and_self, Option.bind_some, Option.bind_none, Option.toList_some, Option.toList_none, List.cons_append, List.nil_append, mset_at, mset_ne, mset_2, mset_mset, Nat.reduceLT, Nat.reduceAdd, nz1, G_RD, G_RD64, S_RD64, y_well, eq_true h3, hi4, bit_def, hr, nI_succ', g1, g4]
        rcases ih with g | g
        · exact Or.inl (ROk_next hec (Nat.le_of_lt (nx_gt hpn)) hF hem g)
        · exact Or.inr (RNo_next hec hF hem g)
    · rw [decide_eq_false h1, bI_f]
      have hE := row_end (b := b) (u := u) (v := v) (τ := τ) (l1 := some (.int (nI z))) (l2 := some (.int (nI (z + 3)))) (l3 := some (.int (nI i))) (l4 := some (.int (nI i))) (l5 := some (.int 0)) hw hT hp h hC hD
      have hso := x_sort (b := b) (u := u) (v := v) (τ := τ) h
      have h1' : ¬ nI (tS t n p) = 1 := tS_ne (k := 1) h1 (by decide)
      have hec : ev 25 30 [some (.ref 3), some (.ref w), some (.int (nI (z + 3))), some (.int (nI i))] [] (G b u v A τ) = ev 25 72 [some (.ref 3), some (.ref w), some (.int (nI (z + 3))), some (.int (nI i))] [] (G b u v A τ) := by
        rw [e25_30]
        by_cases h4 : 16 ≤ i
        · simp (disch := first | omega | assumption | exact Nat.le_of_ble_eq_true rfl) only [m25, e25_31, e25_33, e25_36, e25_37, e25_40, e25_43, e25_44, Bool.false_eq_true, Bool.true_eq_false, gfK, pfK, lnK, isC, alK_n, asK_n, List.getElem?_cons_zero, List.getElem?_cons_succ, List.set_cons_zero, List.set_cons_succ, List.length_cons, List.length_nil, ↓reduceIte, if_true, if_false, eq_self, and_true, true_and, and_self, Option.bind_some, Option.bind_none, Option.toList_some, Option.toList_none, List.cons_append, List.nil_append, mset_at, mset_ne, mset_2, mset_mset, Nat.reduceLT, Nat.reduceAdd, le_16, h4]
        · simp (disch := first | omega | assumption | exact Nat.le_of_ble_eq_true rfl) only [m25, e25_31, e25_33, e25_36, e25_37, e25_40, e25_43, e25_44, Bool.false_eq_true, Bool.true_eq_false, gfK, pfK, lnK, isC, alK_n, asK_n, List.getElem?_cons_zero, List.getElem?_cons_succ, List.set_cons_zero, List.set_cons_succ, List.length_cons, List.length_nil, ↓reduceIte, if_true, if_false, eq_self, and_true, true_and, and_self, Option.bind_some, Option.bind_none, Option.toList_some, Option.toList_none, List.cons_append, List.nil_append, mset_at, mset_ne, mset_2, mset_mset, Nat.reduceLT, Nat.reduceAdd, le_16, h4, G_3, G_4, hso, h1']
      have hem : ∀ (b1 : Nat) (u1 v1 : Int64) (τ1 : Nat × Nat × Nat × (Nat → Int32)) (B : Nat → Nat → Int32) (tk va : Int32), TY B n t → MTk t n p tk va → MD B lc lt nb fr to st → MD B lc lt nb fr to st ∧ ev 158 8 [some (.ref 60), some (.int (nI z)), some (.int (nI i)), some (.int 0)] [] (G b1 u1 v1 (YS B n t p tk va (-1) (nI nw) (nI nb)) τ1) = ev 158 79 [some (.ref 60), some (.int (nI z)), some (.int (nI i)), some (.int 0)] [] (G b1 u1 v1 (YS B n t p tk va (-1) (nI nw) (nI nb)) τ1) := by
        intro b1 u1 v1 τ1 B tk va hB hM hX
        refine ⟨hX, ?_⟩
        rw [e158_8]
        simp (disch := first | omega | assumption | exact Nat.le_of_ble_eq_true rfl) only [m158, e158_9, Bool.false_eq_true, Bool.true_eq_false, gfK, pfK, lnK, isC, alK_n, asK_n, List.getElem?_cons_zero, List.getElem?_cons_succ, List.set_cons_zero, List.set_cons_succ, List.length_cons, List.length_nil, ↓reduceIte, if_true, if_false, eq_self, and_true, true_and, and_self, Option.bind_some, Option.bind_none, Option.toList_some, Option.toList_none, List.cons_append, List.nil_append, mset_at, mset_ne, mset_2, mset_mset, Nat.reduceLT, Nat.reduceAdd, nz1]
      rcases hE with g | g
      · exact Or.inl (ROk_ev hec hem g)
      · exact Or.inr (RNo_ev hec hem g)
theorem row_item (hw : w = 8 ∨ w = 19) (hz : z < 3) (hT : TX A n t) (hp : p ≤ n) (h : CAt A n t p) (h1 : tS t n p = z + 3) (hC : CD A w lc lt nw nb fr to st) (hD : DF lc lt nw nb fr to st) : ROk b u v τ w n t A p nw nb (evM 25 [.ref 3, .ref w] (G b u v A τ)) (fun B => MD B lc lt nb fr to st) (fun σ => evM 158 [.ref 60, .int (nI z)] σ) ∨ RNo b u v τ w n t A p nw nb (evM 25 [.ref 3, .ref w] (G b u v A τ)) (fun B => MD B lc lt nb fr to st) (fun σ => evM 158 [.ref 60, .int (nI z)] σ) := by
  have h9 := hT.1
  have hpn : p < n := by
    by_cases g : p = n
    · rw [g, tS_n] at h1
      omega
    · omega
  have hso := x_sort (b := b) (u := u) (v := v) (τ := τ) h
  rw [h1] at hso
  obtain ⟨A1, s1, c1, f1⟩ := x_step (b := b) (u := u) (v := v) (τ := τ) h
  have hp1 := nx_le (t := t) hp
  obtain ⟨p1, hp1d⟩ : ∃ p1, p1 = nx t n p := ⟨_, rfl⟩
  have hpp1 := nx_gt (t := t) hpn
  rw [← hp1d] at c1 hp1 hpp1
  have hso1 := x_sort (b := b) (u := u) (v := v) (τ := τ) c1
  have hY : ∀ (b1 : Nat) (u1 v1 : Int64) (τ1 : Nat × Nat × Nat × (Nat → Int32)) (B : Nat → Nat → Int32) (tk va : Int32), TY B n t → ∃ tk' va', evM 148 [.ref 60] (G b1 u1 v1 (RD B (nI (ed t n p)) tk (nI p) va (-1) (nI nw) (nI nb)) τ1) = some (none, G b1 u1 v1 (RD B (nI (ed t n p1)) tk' (nI p1) va' (-1) (nI nw) (nI nb)) τ1) ∧ MTk t n p1 tk' va' := by
    intro b1 u1 v1 τ1 B tk va hB
    have := y_step (b := b1) (u := u1) (v := v1) (τ := τ1) (tk := tk) (va := va) (fa := -1) (dw := nI nw) (db := nI nb) hB hp
    rw [← hp1d] at this
    exact this
  by_cases h2 : tS t n p1 = 1
  · have hF : FC w A A1 := FC_4 f1
    have hL := row_loop (b := b) (u := u) (v := v) (τ := τ) hw hz 16 0 p1 A1 st (by omega) (TX_FC hw hF hT) hp1 c1 (CD_of (fun k a _ => f1 k (by omega)) hC) hD
    rw [h2, show nI 1 = 1 from rfl] at hso1
    have hec : evM 25 [.ref 3, .ref w] (G b u v A τ) = ev 25 30 [some (.ref 3), some (.ref w), some (.int (nI (z + 3))), some (.int 0)] [] (G b u v A1 τ) := by
      simp (disch := first | omega | assumption | exact Nat.le_of_ble_eq_true rfl) only [m25, e25_0, e25_1, e25_4, e25_7i, e25_7n, e25_7r, e25_8, e25_9, e25_12, e25_15, e25_16, e25_19, e25_22, e25_23, e25_26, e25_27b0, e25_27b1, e25_28, e25_29i, e25_29n, e25_29r, e25_31, e25_33, e25_36, e25_37, e25_40, e25_43, e25_44, e25_47, e25_48, e25_49, e25_50, e25_53, e25_56, e25_59, e25_60, e25_63, e25_66i, e25_66n, e25_66r, e25_69, e25_72, e25_73, e25_76, e25_78, e25_81b0, e25_81b1, Bool.false_eq_true, Bool.true_eq_false, gfK, pfK, lnK, isC, alK_n, asK_n, List.getElem?_cons_zero, List.getElem?_cons_succ, List.set_cons_zero, List.set_cons_succ, List.length_cons, List.length_nil, ↓reduceIte, if_true, if_false, eq_self, and_true, true_and, and_self, Option.bind_some, Option.bind_none, Option.toList_some, Option.toList_none, List.cons_append, List.nil_append, mset_at, mset_ne, mset_2, mset_mset, Nat.reduceLT, Nat.reduceAdd, G_3, G_4, hso, s1, hso1]
    have hem : ∀ (b1 : Nat) (u1 v1 : Int64) (τ1 : Nat × Nat × Nat × (Nat → Int32)) (B : Nat → Nat → Int32) (tk va : Int32), TY B n t → MTk t n p tk va → MD B lc lt nb fr to st → ∃ B' tk' va', TY B' n t ∧ MTk t n p1 tk' va' ∧ MD B' lc lt nb fr to st ∧ FM B B' ∧ evM 158 [.ref 60, .int (nI z)] (G b1 u1 v1 (YS B n t p tk va (-1) (nI nw) (nI nb)) τ1) = ev 158 8 [some (.ref 60), some (.int (nI z)), some (.int (nI 0)), some (.int (bI (decide (tS t n p1 = 1))))] [] (G b1 u1 v1 (YS B' n t p1 tk' va' (-1) (nI nw) (nI nb)) τ1) := by
      intro b1 u1 v1 τ1 B tk va hB hM hX
      obtain ⟨t1, w1, y1, m1⟩ := hY b1 u1 v1 τ1 B tk va hB
      refine ⟨B, t1, w1, hB, m1, hX, FM_rf, ?_⟩
      rw [decide_eq_true h2, bI_t]
      show _ = ev 158 8 [some (.ref 60), some (.int (nI z)), some (.int 0), some (.int 1)] [] _
      unfold YS
      simp (disch := first | omega | assumption | exact Nat.le_of_ble_eq_true rfl) only [m158, e158_0, e158_1, e158_4, e158_5i, e158_5n, e158_5r, e158_6, e158_7i, e158_7n, e158_7r, e158_9, e158_12, e158_13, e158_16, e158_19, e158_20, e158_23, e158_24, e158_27, e158_28, e158_30, e158_33, e158_34, e158_37, e158_40, e158_41, e158_44, e158_45, e158_46, e158_47, e158_48, e158_49, e158_52, e158_53, e158_54, e158_55i, e158_55n, e158_55r, e158_58, e158_59, e158_62, e158_63, e158_66, e158_67, e158_70, e158_71, e158_74, e158_75i, e158_75n, e158_75r, e158_76, e158_79, e158_80, e158_82, e158_85, Bool.false_eq_true, Bool.true_eq_false, gfK, pfK, lnK, isC, alK_n, asK_n, List.getElem?_cons_zero, List.getElem?_cons_succ, List.set_cons_zero, List.set_cons_succ, List.length_cons, List.length_nil, ↓reduceIte, if_true, if_false, eq_self, and_true, true_and, and_self, Option.bind_some, Option.bind_none, Option.toList_some, Option.toList_none, List.cons_append, List.nil_append, mset_at, mset_ne, mset_2, mset_mset, Nat.reduceLT, Nat.reduceAdd, G_RD, y1]
    rcases hL with g | g
    · exact Or.inl (ROk_next hec (by omega) hF hem g)
    · exact Or.inr (RNo_next hec hF hem g)
  · have h2' : ¬ nI (tS t n p1) = 1 := tS_ne (k := 1) h2 (by decide)
    refine Or.inr ⟨A1, p1, ?_, c1, hp1, FC_4 f1, fun b1 u1 v1 τ1 B tk va hB hM hX => ?_⟩
    · simp (disch := first | omega | assumption | exact Nat.le_of_ble_eq_true rfl) only [m25, e25_0, e25_1, e25_4, e25_7i, e25_7n, e25_7r, e25_8, e25_9, e25_12, e25_15, e25_16, e25_19, e25_22, e25_23, e25_26, e25_27b0, e25_27b1, e25_28, e25_29i, e25_29n, e25_29r, e25_31, e25_33, e25_36, e25_37, e25_40, e25_43, e25_44, e25_47, e25_48, e25_49, e25_50, e25_53, e25_56, e25_59, e25_60, e25_63, e25_66i, e25_66n, e25_66r, e25_69, e25_72, e25_73, e25_76, e25_78, e25_81b0, e25_81b1, Bool.false_eq_true, Bool.true_eq_false, gfK, pfK, lnK, isC, alK_n, asK_n, List.getElem?_cons_zero, List.getElem?_cons_succ, List.set_cons_zero, List.set_cons_succ, List.length_cons, List.length_nil, ↓reduceIte, if_true, if_false, eq_self, and_true, true_and, and_self, Option.bind_some, Option.bind_none, Option.toList_some, Option.toList_none, List.cons_append, List.nil_append, mset_at, mset_ne, mset_2, mset_mset, Nat.reduceLT, Nat.reduceAdd, G_3, G_4, hso, s1, hso1, h2']
    · obtain ⟨t1, w1, y1, m1⟩ := hY b1 u1 v1 τ1 B tk va hB
      have e2 := (tk_3 m1) ▸ h2
      have hx := fun l2 => yrow_8x (b := b1) (u := u1) (v := v1) (τ := τ1) (A := B) (n0 := nI (ed t n p1)) (tk := t1) (pl := nI p1) (va := w1) (dw := nI nw) (db := nI nb) (l1 := some (.int (nI z))) (l2 := l2) (show p1 < 2147483648 by omega)
      have h8 : ev 158 8 [some (.ref 60), some (.int (nI z)), some (.int 0), some (.int 1)] [] (G b1 u1 v1 (RD B (nI (ed t n p1)) t1 (nI p1) w1 (-1) (nI nw) (nI nb)) τ1) = some (none, G b1 u1 v1 (RD B (nI (ed t n p1)) t1 (nI p1) w1 (nI p1) (nI nw) (nI nb)) τ1) := by
        rw [e158_8]
        simp (disch := first | omega | assumption | exact Nat.le_of_ble_eq_true rfl) only [m158, e158_9, e158_12, e158_13, e158_16, e158_19, e158_20, e158_23, e158_24, e158_27, e158_28, e158_30, e158_33, e158_34, e158_37, e158_40, e158_41, e158_44, e158_45, e158_46, e158_47, e158_48, e158_49, e158_52, e158_53, e158_54, e158_55i, e158_55n, e158_55r, e158_58, e158_59, e158_62, e158_63, e158_66, e158_67, e158_70, e158_71, e158_74, e158_75i, e158_75n, e158_75r, e158_76, Bool.false_eq_true, Bool.true_eq_false, gfK, pfK, lnK, isC, alK_n, asK_n, List.getElem?_cons_zero, List.getElem?_cons_succ, List.set_cons_zero, List.set_cons_succ, List.length_cons, List.length_nil, ↓reduceIte, if_true, if_false, eq_self, and_true, true_and, and_self, Option.bind_some, Option.bind_none, Option.toList_some, Option.toList_none, List.cons_append, List.nil_append, mset_at, mset_ne, mset_2, mset_mset, Nat.reduceLT, Nat.reduceAdd, nz1, G_RD, y_well, e2, y_fails, hx]
      refine ⟨B, nI (ed t n p1), t1, nI p1, w1, nI nw, nI nb, ?_, FM_rf⟩
      unfold YS
      simp (disch := first | omega | assumption | exact Nat.le_of_ble_eq_true rfl) only [m158, e158_0, e158_1, e158_4, e158_5i, e158_5n, e158_5r, e158_6, e158_7i, e158_7n, e158_7r, e158_9, e158_12, e158_13, e158_16, e158_19, e158_20, e158_23, e158_24, e158_27, e158_28, e158_30, e158_33, e158_34, e158_37, e158_40, e158_41, e158_44, e158_45, e158_46, e158_47, e158_48, e158_49, e158_52, e158_53, e158_54, e158_55i, e158_55n, e158_55r, e158_58, e158_59, e158_62, e158_63, e158_66, e158_67, e158_70, e158_71, e158_74, e158_75i, e158_75n, e158_75r, e158_76, e158_79, e158_80, e158_82, e158_85, Bool.false_eq_true, Bool.true_eq_false, gfK, pfK, lnK, isC, alK_n, asK_n, List.getElem?_cons_zero, List.getElem?_cons_succ, List.set_cons_zero, List.set_cons_succ, List.length_cons, List.length_nil, ↓reduceIte, if_true, if_false, eq_self, and_true, true_and, and_self, Option.bind_some, Option.bind_none, Option.toList_some, Option.toList_none, List.cons_append, List.nil_append, mset_at, mset_ne, mset_2, mset_mset, Nat.reduceLT, Nat.reduceAdd, G_RD, y1, h8]
end ITEMS
