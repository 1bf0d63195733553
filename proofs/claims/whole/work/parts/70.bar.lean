/-! READING a bar. -/
section BARI
variable {b w : Nat} {u v : Int64} {A B : Nat → Nat → Int32} {τ : Nat × Nat × Nat × (Nat → Int32)} {lc : Nat → Nat} {lt : Nat → Nat → Nat} {fr to : Nat → Nat} {st : Nat → Int32} {nw nb n i j p e c k q s d z : Nat} {t : Nat → Nat} {x y S n0 tk pl va fa dw db : Int32} {σ : mS} {l1 l2 l3 l4 l5 : Option Value}
theorem lt_n {k : Nat} (hp : p ≤ n) (h : tS t n p = k) (hk : k ≠ 0) : p < n := by
  by_cases g : p = n
  · rw [g, tS_n] at h
    omega
  · omega
theorem DF_bar (hp : p < 16) (hq : q < 16) (hb : nb < 10) (h : DF lc lt nw nb fr to st) : DF lc lt nw (nb + 1) (set1 fr nb p) (set1 to nb q) st := by
  obtain ⟨d1, d2, d3, d4⟩ := h
  refine ⟨d1, d2, ⟨by omega, fun j hj => ?_⟩, d4⟩
  by_cases e : j = nb
  · rw [e, set1_at, set1_at]
    exact ⟨hp, hq⟩
  · rw [set1_ne e, set1_ne e]
    exact d3.2 j (by omega)
def B2 (B : Nat → Nat → Int32) (nb : Nat) (x y : Int32) : Nat → Nat → Int32 := up (up B 63 (upd (B 63) (20 + 2 * nb) x)) 63 (upd (upd (B 63) (20 + 2 * nb) x) (21 + 2 * nb) y)
theorem FM_B1 : FM B (up B 63 (upd (B 63) (20 + 2 * nb) x)) := FM_63 (fun j hj => upd_ne (by omega))
theorem FM_B2 : FM B (B2 B nb x y) := by
  unfold B2
  rw [up_up]
  exact FM_63 (fun j hj => by rw [upd_ne (by omega), upd_ne (by omega)])
theorem MD_bar (h : MD B lc lt nb fr to st) : MD (B2 B nb (nI p) (nI q)) lc lt (nb + 1) (set1 fr nb p) (set1 to nb q) st := by
  obtain ⟨d1, d2, d3⟩ := h
  unfold B2
  rw [up_up]
  refine ⟨fun j hj => ?_, fun j hj => ?_, ?_⟩
  · rw [up_ne (by omega)]; exact d1 j hj
  · rw [up_at]
    by_cases e : j = nb
    · rw [e, set1_at, set1_at, upd_at, upd_ne (by omega), upd_at]
      exact ⟨rfl, rfl⟩
    · rw [set1_ne e, set1_ne e, upd_ne (by omega), upd_ne (by omega), upd_ne (by omega), upd_ne (by omega)]
      exact d2 j (by omega)
  · rw [up_ne (by omega)]; exact d3
theorem ybar_60x (hb : nb < 10) (hq : q < 2147483648) : ev 159 60 [some (.ref 60)] [] (G b u v (RD (B2 B nb x y) n0 tk pl va (nI q) dw (nI nb)) τ) = some (none, G b u v (RD (B2 B nb x y) n0 tk pl va (nI q) dw (nI (nb + 1))) τ) := by
  simp (disch := first | omega | assumption | exact Nat.le_of_ble_eq_true rfl) only [m159, e159_60, e159_61, e159_63, e159_66, e159_67i, e159_67r, e159_68, e159_71, e159_72, e159_73, e159_76, Bool.false_eq_true, Bool.true_eq_false, gfK, pfK, lnK, isC, alK_n, asK_n, List.getElem?_cons_zero, List.getElem?_cons_succ, List.set_cons_zero, List.set_cons_succ, List.length_cons, List.length_nil, ↓reduceIte, if_true, if_false, eq_self, and_true, true_and, and_self, Option.bind_some, Option.bind_none, Option.toList_some, Option.toList_none, List.cons_append, List.nil_append, mset_at, mset_ne, mset_2, mset_mset, Nat.reduceLT, Nat.reduceAdd, G_RD, S_RD, y_sign_x hq, nI_succ']
theorem ybar_42x (hb : nb < 10) (hq : q < 2147483648) : ev 159 42 [some (.ref 60)] [] (G b u v (RD (up B 63 (upd (B 63) (20 + 2 * nb) x)) n0 tk pl va (nI q) dw (nI nb)) τ) = some (none, G b u v (RD (B2 B nb x 0) n0 tk pl va (nI q) dw (nI (nb + 1))) τ) := by
  have h := ybar_60x (b := b) (u := u) (v := v) (τ := τ) (B := B) (x := x) (y := 0) (n0 := n0) (tk := tk) (pl := pl) (va := va) (dw := dw) hb hq
  have e1 : up B 63 (upd (B 63) (20 + 2 * nb) x) 63 = upd (B 63) (20 + 2 * nb) x := up_at
  unfold B2 at h ⊢
  simp (disch := first | omega | assumption | exact Nat.le_of_ble_eq_true rfl) only [m159, e159_42, e159_43, e159_46, e159_48, e159_49, e159_50, e159_53, e159_54, e159_55, e159_56, e159_59, Bool.false_eq_true, Bool.true_eq_false, gfK, pfK, lnK, isC, alK_n, asK_n, List.getElem?_cons_zero, List.getElem?_cons_succ, List.set_cons_zero, List.set_cons_succ, List.length_cons, List.length_nil, ↓reduceIte, if_true, if_false, eq_self, and_true, true_and, and_self, Option.bind_some, Option.bind_none, Option.toList_some, Option.toList_none, List.cons_append, List.nil_append, mset_at, mset_ne, mset_2, mset_mset, Nat.reduceLT, Nat.reduceAdd, G_RD, G_RD63, S_RD63, lm_2, la_21, y_state_x hq, e1, h]
theorem ybar_36x (hb : nb < 10) (hq : q < 2147483648) : ev 159 36 [some (.ref 60)] [] (G b u v (RD (up B 63 (upd (B 63) (20 + 2 * nb) x)) n0 tk pl va (nI q) dw (nI nb)) τ) = some (none, G b u v (RD (B2 B nb x 0) n0 tk pl va (nI q) dw (nI (nb + 1))) τ) := by
  have h := ybar_42x (b := b) (u := u) (v := v) (τ := τ) (B := B) (x := x) (n0 := n0) (tk := tk) (pl := pl) (va := va) (dw := dw) hb hq
  simp (disch := first | omega | assumption | exact Nat.le_of_ble_eq_true rfl) only [m159, e159_36, e159_37, e159_39, Bool.false_eq_true, Bool.true_eq_false, gfK, pfK, lnK, isC, alK_n, asK_n, List.getElem?_cons_zero, List.getElem?_cons_succ, List.set_cons_zero, List.set_cons_succ, List.length_cons, List.length_nil, ↓reduceIte, if_true, if_false, eq_self, and_true, true_and, and_self, Option.bind_some, Option.bind_none, Option.toList_some, Option.toList_none, List.cons_append, List.nil_append, mset_at, mset_ne, mset_2, mset_mset, Nat.reduceLT, Nat.reduceAdd, G_RD, y_sign_x hq, h]
theorem bar_item (hw : w = 8 ∨ w = 19) (hT : TX A n t) (hp : p ≤ n) (h : CAt A n t p) (h1 : tS t n p = 6) (hC : CD A w lc lt nw nb fr to st) (hD : DF lc lt nw nb fr to st) : ROk b u v τ w n t A p nw nb (evM 26 [.ref 3, .ref w] (G b u v A τ)) (fun B => MD B lc lt nb fr to st) (fun σ => evM 159 [.ref 60] σ) ∨ RNo b u v τ w n t A p nw nb (evM 26 [.ref 3, .ref w] (G b u v A τ)) (fun B => MD B lc lt nb fr to st) (fun σ => evM 159 [.ref 60] σ) := by
  have h9 := hT.1
  have hpn := lt_n hp h1 (by omega)
  have hnb := hD.2.2.1.1
  have c3 := hC.2.2.1.1
  by_cases hn : nb < 10
  · have g10 : ¬ nI nb = 10 := fun g => by have := nI_inj (i := nb) (j := 10) (by omega) (by decide) g; omega
    have g10' : nI nb < 10 := (nI_ltI (a := nb) (b := 10) (by omega) (by decide)).2 hn
    obtain ⟨A1, s1, c1, f1⟩ := x_step (b := b) (u := u) (v := v) (τ := τ) h
    have hp1 := nx_le (t := t) hp
    obtain ⟨p1, hp1d⟩ : ∃ p1, p1 = nx t n p := ⟨_, rfl⟩
    have hpp1 := nx_gt (t := t) hpn
    rw [← hp1d] at c1 hp1 hpp1
    have hva1 := x_value (b := b) (u := u) (v := v) (τ := τ) c1
    have hY : ∀ (b1 : Nat) (u1 v1 : Int64) (τ1 : Nat × Nat × Nat × (Nat → Int32)) (B : Nat → Nat → Int32) (tk va : Int32), TY B n t → ∃ tk' va', evM 148 [.ref 60] (G b1 u1 v1 (RD B (nI (ed t n p)) tk (nI p) va (-1) (nI nw) (nI nb)) τ1) = some (none, G b1 u1 v1 (RD B (nI (ed t n p1)) tk' (nI p1) va' (-1) (nI nw) (nI nb)) τ1) ∧ MTk t n p1 tk' va' := by
      intro b1 u1 v1 τ1 B tk va hB
      have := y_step (b := b1) (u := u1) (v := v1) (τ := τ1) (tk := tk) (va := va) (fa := -1) (dw := nI nw) (db := nI nb) hB hp
      rw [← hp1d] at this
      exact this
    by_cases h2 : tS t n p1 = 1
    · have hpn1 := lt_n hp1 h2 (by omega)
      have hfr := tV_1 h2
      obtain ⟨p', hpd'⟩ : ∃ p', p' = tV t n p1 := ⟨_, rfl⟩
      rw [cV_tV (Or.inl h2), ← hpd'] at hva1
      rw [← hpd'] at hfr
      obtain ⟨A2, s2, c2, f2⟩ := x_pass_t (b := b) (u := u) (v := v) (τ := τ) (x := 1) c1 (by rw [h2]; rfl)
      have hp2 := nx_le (t := t) hp1
      obtain ⟨p2, hp2d⟩ : ∃ p2, p2 = nx t n p1 := ⟨_, rfl⟩
      have hpp2 := nx_gt (t := t) hpn1
      rw [← hp2d] at c2 hp2 hpp2
      have hY1 : ∀ (b1 : Nat) (u1 v1 : Int64) (τ1 : Nat × Nat × Nat × (Nat → Int32)) (B : Nat → Nat → Int32) (tk va : Int32), TY B n t → MTk t n p1 tk va → ∃ tk' va', evM 155 [.ref 60] (G b1 u1 v1 (RD B (nI (ed t n p1)) tk (nI p1) va (-1) (nI nw) (nI nb)) τ1) = some (some (.int (nI p')), G b1 u1 v1 (RD B (nI (ed t n p2)) tk' (nI p2) va' (-1) (nI nw) (nI nb)) τ1) ∧ MTk t n p2 tk' va' := by
        intro b1 u1 v1 τ1 B tk va hB hM
        have := y_state_t (b := b1) (u := u1) (v := v1) (τ := τ1) (dw := nI nw) (db := nI nb) hB hp1 hM h2
        rw [← hp2d, ← hpd'] at this
        exact this
      by_cases h7 : tS t n p2 = 7
      · have hpn2 := lt_n hp2 h7 (by omega)
        obtain ⟨A3, s3, c3', f3⟩ := x_pass_t (b := b) (u := u) (v := v) (τ := τ) (x := 7) c2 (by rw [h7]; rfl)
        have hp3 := nx_le (t := t) hp2
        obtain ⟨p3, hp3d⟩ : ∃ p3, p3 = nx t n p2 := ⟨_, rfl⟩
        have hpp3 := nx_gt (t := t) hpn2
        rw [← hp3d] at c3' hp3 hpp3
        have hva3 := x_value (b := b) (u := u) (v := v) (τ := τ) c3'
        have hY2 : ∀ (b1 : Nat) (u1 v1 : Int64) (τ1 : Nat × Nat × Nat × (Nat → Int32)) (B : Nat → Nat → Int32) (tk va : Int32), TY B n t → MTk t n p2 tk va → ∃ tk' va', evM 156 [.ref 60, .int 62] (G b1 u1 v1 (RD B (nI (ed t n p2)) tk (nI p2) va (-1) (nI nw) (nI nb)) τ1) = some (none, G b1 u1 v1 (RD B (nI (ed t n p3)) tk' (nI p3) va' (-1) (nI nw) (nI nb)) τ1) ∧ MTk t n p3 tk' va' := by
          intro b1 u1 v1 τ1 B tk va hB hM
          have := y_gt (b := b1) (u := u1) (v := v1) (τ := τ1) (dw := nI nw) (db := nI nb) hB hp2 hM h7
          rw [← hp3d] at this
          exact this
        by_cases h3 : tS t n p3 = 1
        · have hpn3 := lt_n hp3 h3 (by omega)
          have hto := tV_1 h3
          obtain ⟨q', hqd'⟩ : ∃ q', q' = tV t n p3 := ⟨_, rfl⟩
          rw [cV_tV (Or.inl h3), ← hqd'] at hva3
          rw [← hqd'] at hto
          obtain ⟨A4, s4, c4, f4⟩ := x_pass_t (b := b) (u := u) (v := v) (τ := τ) (x := 1) c3' (by rw [h3]; rfl)
          have hp4 := nx_le (t := t) hp3
          obtain ⟨p4, hp4d⟩ : ∃ p4, p4 = nx t n p3 := ⟨_, rfl⟩
          have hpp4 := nx_gt (t := t) hpn3
          rw [← hp4d] at c4 hp4 hpp4
          have hY3 : ∀ (b1 : Nat) (u1 v1 : Int64) (τ1 : Nat × Nat × Nat × (Nat → Int32)) (B : Nat → Nat → Int32) (tk va : Int32), TY B n t → MTk t n p3 tk va → ∃ tk' va', evM 155 [.ref 60] (G b1 u1 v1 (RD B (nI (ed t n p3)) tk (nI p3) va (-1) (nI nw) (nI nb)) τ1) = some (some (.int (nI q')), G b1 u1 v1 (RD B (nI (ed t n p4)) tk' (nI p4) va' (-1) (nI nw) (nI nb)) τ1) ∧ MTk t n p4 tk' va' := by
            intro b1 u1 v1 τ1 B tk va hB hM
            have := y_state_t (b := b1) (u := u1) (v := v1) (τ := τ1) (dw := nI nw) (db := nI nb) hB hp3 hM h3
            rw [← hp4d, ← hqd'] at this
            exact this
          have hC4 := CD_of (A' := A4) (fun k a _ => f4 k (by omega)) (CD_of (A' := A3) (fun k a _ => f3 k (by omega)) (CD_of (A' := A2) (fun k a _ => f2 k (by omega)) (CD_of (A' := A1) (fun k a _ => f1 k (by omega)) hC)))
          obtain ⟨A5, s5, hC5, f5, f5'⟩ := x_addBar (b := b) (u := u) (v := v) (τ := τ) (p := p') (q := q') hw hC4 hn
          have c5 : CAt A5 n t p4 := CAt_of f5' c4
          have hF : FC w A A5 := FC_tr (FC_4 f1) (FC_tr (FC_4 f2) (FC_tr (FC_4 f3) (FC_tr (FC_4 f4) f5)))
          by_cases h8 : tS t n p4 = 8
          · have hpn4 := lt_n hp4 h8 (by omega)
            obtain ⟨A6, s6, c6, f6⟩ := x_pass_t (b := b) (u := u) (v := v) (τ := τ) (x := 8) c5 (by rw [h8]; rfl)
            have hpp5 := nx_gt (t := t) hpn4
            refine Or.inl ⟨A6, nx t n p4, lc, lt, nw, nb + 1, set1 fr nb p', set1 to nb q', st, ?_, c6, CD_of (fun k a _ => f6 k (by omega)) hC5, DF_bar hfr hto hn hD, by omega, nx_le hp4, FC_tr hF (FC_4 f6), fun b1 u1 v1 τ1 B tk va hB hM hX => ?_⟩
            · simp (disch := first | omega | assumption | exact Nat.le_of_ble_eq_true rfl) only [m26, e26_0, e26_1, e26_4, e26_6, e26_9, e26_10b0, e26_10b1, e26_11, e26_12, e26_15, e26_18, e26_19, e26_22, e26_25i, e26_25n, e26_25r, e26_26, e26_27, e26_30, e26_31, e26_34, e26_37, e26_38, e26_41, e26_43, e26_46, e26_49, e26_50b0, e26_50b1, e26_51, e26_52, e26_55, e26_58i, e26_58n, e26_58r, e26_59, e26_60, e26_63, e26_64, e26_67, e26_70, e26_71b0, e26_71b1, e26_72, e26_73, e26_74, e26_75, e26_78, e26_79, e26_82, e26_84, e26_87b0, e26_87b1, Bool.false_eq_true, Bool.true_eq_false, gfK, pfK, lnK, isC, alK_n, asK_n, List.getElem?_cons_zero, List.getElem?_cons_succ, List.set_cons_zero, List.set_cons_succ, List.length_cons, List.length_nil, ↓reduceIte, if_true, if_false, eq_self, and_true, true_and, and_self, Option.bind_some, Option.bind_none, Option.toList_some, Option.toList_none, List.cons_append, List.nil_append, mset_at, mset_ne, mset_2, mset_mset, Nat.reduceLT, Nat.reduceAdd, G_3, G_4, G_W0 hw, c3, g10', s1, hva1, s2, nz1, s3, hva3, s4, s5, s6]
            · obtain ⟨t1, w1, y1, m1⟩ := hY b1 u1 v1 τ1 B tk va hB
              obtain ⟨t2, w2, y2, m2⟩ := hY1 b1 u1 v1 τ1 B t1 w1 hB m1
              have hB1 := TY_FM (FM_B1 (nb := nb) (x := nI p')) hB
              obtain ⟨t3, w3, y3, m3⟩ := hY2 b1 u1 v1 τ1 _ t2 w2 hB1 m2
              obtain ⟨t4, w4, y4, m4⟩ := hY3 b1 u1 v1 τ1 _ t3 w3 hB1 m3
              have hB2 := TY_FM (FM_B2 (nb := nb) (x := nI p') (y := nI q')) hB
              obtain ⟨t5, w5, y5, m5⟩ := y_semi (b := b1) (u := u1) (v := v1) (τ := τ1) (dw := nI nw) (db := nI nb) hB2 hp4 m4 h8
              refine ⟨B2 B nb (nI p') (nI q'), t5, w5, ?_, m5, MD_bar hX, FM_B2⟩
              have e1 : up B 63 (upd (B 63) (20 + 2 * nb) (nI p')) 63 = upd (B 63) (20 + 2 * nb) (nI p') := up_at
              unfold B2 YS at y5 ⊢
              simp (disch := first | omega | assumption | exact Nat.le_of_ble_eq_true rfl) only [m159, e159_0, e159_1, e159_4, e159_6, e159_9, e159_10, e159_13, e159_14, e159_15, e159_18, e159_19, e159_22, e159_24, e159_25, e159_26, e159_29, e159_30, e159_31, e159_32, e159_35, e159_36, e159_37, e159_39, e159_42, e159_43, e159_46, e159_48, e159_49, e159_50, e159_53, e159_54, e159_55, e159_56, e159_59, e159_60, e159_61, e159_63, e159_66, e159_67i, e159_67r, e159_68, e159_71, e159_72, e159_73, e159_76, Bool.false_eq_true, Bool.true_eq_false, gfK, pfK, lnK, isC, alK_n, asK_n, List.getElem?_cons_zero, List.getElem?_cons_succ, List.set_cons_zero, List.set_cons_succ, List.length_cons, List.length_nil, ↓reduceIte, if_true, if_false, eq_self, and_true, true_and, and_self, Option.bind_some, Option.bind_none, Option.toList_some, Option.toList_none, List.cons_append, List.nil_append, mset_at, mset_ne, mset_2, mset_mset, Nat.reduceLT, Nat.reduceAdd, G_RD, S_RD, S_RD63uu, G_RD63, S_RD63, g10, y1, lm_2, la_20, la_21, y2, y3, y4, e1, y5, nI_succ']
          · have h8' := x_pass_f (b := b) (u := u) (v := v) (τ := τ) (x := 8) c5 (tS_ne h8 (by decide))
            refine Or.inr ⟨A5, p4, ?_, c5, hp4, hF, fun b1 u1 v1 τ1 B tk va hB hM hX => ?_⟩
            · simp (disch := first | omega | assumption | exact Nat.le_of_ble_eq_true rfl) only [m26, e26_0, e26_1, e26_4, e26_6, e26_9, e26_10b0, e26_10b1, e26_11, e26_12, e26_15, e26_18, e26_19, e26_22, e26_25i, e26_25n, e26_25r, e26_26, e26_27, e26_30, e26_31, e26_34, e26_37, e26_38, e26_41, e26_43, e26_46, e26_49, e26_50b0, e26_50b1, e26_51, e26_52, e26_55, e26_58i, e26_58n, e26_58r, e26_59, e26_60, e26_63, e26_64, e26_67, e26_70, e26_71b0, e26_71b1, e26_72, e26_73, e26_74, e26_75, e26_78, e26_79, e26_82, e26_84, e26_87b0, e26_87b1, Bool.false_eq_true, Bool.true_eq_false, gfK, pfK, lnK, isC, alK_n, asK_n, List.getElem?_cons_zero, List.getElem?_cons_succ, List.set_cons_zero, List.set_cons_succ, List.length_cons, List.length_nil, ↓reduceIte, if_true, if_false, eq_self, and_true, true_and, and_self, Option.bind_some, Option.bind_none, Option.toList_some, Option.toList_none, List.cons_append, List.nil_append, mset_at, mset_ne, mset_2, mset_mset, Nat.reduceLT, Nat.reduceAdd, G_3, G_4, G_W0 hw, c3, g10', s1, hva1, s2, nz1, s3, hva3, s4, s5, h8']
            · obtain ⟨t1, w1, y1, m1⟩ := hY b1 u1 v1 τ1 B tk va hB
              obtain ⟨t2, w2, y2, m2⟩ := hY1 b1 u1 v1 τ1 B t1 w1 hB m1
              have hB1 := TY_FM (FM_B1 (nb := nb) (x := nI p')) hB
              obtain ⟨t3, w3, y3, m3⟩ := hY2 b1 u1 v1 τ1 _ t2 w2 hB1 m2
              obtain ⟨t4, w4, y4, m4⟩ := hY3 b1 u1 v1 τ1 _ t3 w3 hB1 m3
              have y5 := y_semiF (b := b1) (u := u1) (v := v1) (τ := τ1) (A := B2 B nb (nI p') (nI q')) (n0 := nI (ed t n p4)) (pl := nI p4) (dw := nI nw) (db := nI nb) m4 h8
              refine ⟨B2 B nb (nI p') (nI q'), nI (ed t n p4), t4, nI p4, w4, nI nw, nI (nb + 1), ?_, FM_B2⟩
              have e1 : up B 63 (upd (B 63) (20 + 2 * nb) (nI p')) 63 = upd (B 63) (20 + 2 * nb) (nI p') := up_at
              unfold B2 at y5 ⊢
              unfold YS
              simp (disch := first | omega | assumption | exact Nat.le_of_ble_eq_true rfl) only [m159, e159_0, e159_1, e159_4, e159_6, e159_9, e159_10, e159_13, e159_14, e159_15, e159_18, e159_19, e159_22, e159_24, e159_25, e159_26, e159_29, e159_30, e159_31, e159_32, e159_35, e159_36, e159_37, e159_39, e159_42, e159_43, e159_46, e159_48, e159_49, e159_50, e159_53, e159_54, e159_55, e159_56, e159_59, e159_60, e159_61, e159_63, e159_66, e159_67i, e159_67r, e159_68, e159_71, e159_72, e159_73, e159_76, Bool.false_eq_true, Bool.true_eq_false, gfK, pfK, lnK, isC, alK_n, asK_n, List.getElem?_cons_zero, List.getElem?_cons_succ, List.set_cons_zero, List.set_cons_succ, List.length_cons, List.length_nil, ↓reduceIte, if_true, if_false, eq_self, and_true, true_and, and_self, Option.bind_some, Option.bind_none, Option.toList_some, Option.toList_none, List.cons_append, List.nil_append, mset_at, mset_ne, mset_2, mset_mset, Nat.reduceLT, Nat.reduceAdd, G_RD, S_RD, S_RD63uu, G_RD63, S_RD63, g10, y1, lm_2, la_20, la_21, y2, y3, y4, e1, y5, nI_succ']
        · have h3' := x_pass_f (b := b) (u := u) (v := v) (τ := τ) (x := 1) c3' (tS_ne h3 (by decide))
          refine Or.inr ⟨A3, p3, ?_, c3', hp3, FC_tr (FC_4 f1) (FC_tr (FC_4 f2) (FC_4 f3)), fun b1 u1 v1 τ1 B tk va hB hM hX => ?_⟩
          · simp (disch := first | omega | assumption | exact Nat.le_of_ble_eq_true rfl) only [m26, e26_0, e26_1, e26_4, e26_6, e26_9, e26_10b0, e26_10b1, e26_11, e26_12, e26_15, e26_18, e26_19, e26_22, e26_25i, e26_25n, e26_25r, e26_26, e26_27, e26_30, e26_31, e26_34, e26_37, e26_38, e26_41, e26_43, e26_46, e26_49, e26_50b0, e26_50b1, e26_51, e26_52, e26_55, e26_58i, e26_58n, e26_58r, e26_59, e26_60, e26_63, e26_64, e26_67, e26_70, e26_71b0, e26_71b1, e26_72, e26_73, e26_74, e26_75, e26_78, e26_79, e26_82, e26_84, e26_87b0, e26_87b1, Bool.false_eq_true, Bool.true_eq_false, gfK, pfK, lnK, isC, alK_n, asK_n, List.getElem?_cons_zero, List.getElem?_cons_succ, List.set_cons_zero, List.set_cons_succ, List.length_cons, List.length_nil, ↓reduceIte, if_true, if_false, eq_self, and_true, true_and, and_self, Option.bind_some, Option.bind_none, Option.toList_some, Option.toList_none, List.cons_append, List.nil_append, mset_at, mset_ne, mset_2, mset_mset, Nat.reduceLT, Nat.reduceAdd, G_3, G_4, G_W0 hw, c3, g10', s1, hva1, s2, nz1, s3, hva3, h3']
          · obtain ⟨t1, w1, y1, m1⟩ := hY b1 u1 v1 τ1 B tk va hB
            obtain ⟨t2, w2, y2, m2⟩ := hY1 b1 u1 v1 τ1 B t1 w1 hB m1
            have hB1 := TY_FM (FM_B1 (nb := nb) (x := nI p')) hB
            obtain ⟨t3, w3, y3, m3⟩ := hY2 b1 u1 v1 τ1 _ t2 w2 hB1 m2
            have y4 := y_state_f (b := b1) (u := u1) (v := v1) (τ := τ1) (A := up B 63 (upd (B 63) (20 + 2 * nb) (nI p'))) (n0 := nI (ed t n p3)) (pl := nI p3) (dw := nI nw) (db := nI nb) m3 h3
            have y5 := ybar_60x (b := b1) (u := u1) (v := v1) (τ := τ1) (B := B) (x := nI p') (y := 0) (n0 := nI (ed t n p3)) (tk := t3) (pl := nI p3) (va := w3) (dw := nI nw) hn (show p3 < 2147483648 by omega)
            refine ⟨B2 B nb (nI p') 0, nI (ed t n p3), t3, nI p3, w3, nI nw, nI (nb + 1), ?_, FM_B2⟩
            have e1 : up B 63 (upd (B 63) (20 + 2 * nb) (nI p')) 63 = upd (B 63) (20 + 2 * nb) (nI p') := up_at
            unfold B2 at y5 ⊢
            unfold YS
            simp (disch := first | omega | assumption | exact Nat.le_of_ble_eq_true rfl) only [m159, e159_0, e159_1, e159_4, e159_6, e159_9, e159_10, e159_13, e159_14, e159_15, e159_18, e159_19, e159_22, e159_24, e159_25, e159_26, e159_29, e159_30, e159_31, e159_32, e159_35, e159_36, e159_37, e159_39, e159_42, e159_43, e159_46, e159_48, e159_49, e159_50, e159_53, e159_54, e159_55, e159_56, e159_59, Bool.false_eq_true, Bool.true_eq_false, gfK, pfK, lnK, isC, alK_n, asK_n, List.getElem?_cons_zero, List.getElem?_cons_succ, List.set_cons_zero, List.set_cons_succ, List.length_cons, List.length_nil, ↓reduceIte, if_true, if_false, eq_self, and_true, true_and, and_self, Option.bind_some, Option.bind_none, Option.toList_some, Option.toList_none, List.cons_append, List.nil_append, mset_at, mset_ne, mset_2, mset_mset, Nat.reduceLT, Nat.reduceAdd, G_RD, S_RD, G_RD63, S_RD63, g10, y1, lm_2, la_20, la_21, y2, y3, y4, e1, y5]
      · have h7' := x_pass_f (b := b) (u := u) (v := v) (τ := τ) (x := 7) c2 (tS_ne h7 (by decide))
        refine Or.inr ⟨A2, p2, ?_, c2, hp2, FC_tr (FC_4 f1) (FC_4 f2), fun b1 u1 v1 τ1 B tk va hB hM hX => ?_⟩
        · simp (disch := first | omega | assumption | exact Nat.le_of_ble_eq_true rfl) only [m26, e26_0, e26_1, e26_4, e26_6, e26_9, e26_10b0, e26_10b1, e26_11, e26_12, e26_15, e26_18, e26_19, e26_22, e26_25i, e26_25n, e26_25r, e26_26, e26_27, e26_30, e26_31, e26_34, e26_37, e26_38, e26_41, e26_43, e26_46, e26_49, e26_50b0, e26_50b1, e26_51, e26_52, e26_55, e26_58i, e26_58n, e26_58r, e26_59, e26_60, e26_63, e26_64, e26_67, e26_70, e26_71b0, e26_71b1, e26_72, e26_73, e26_74, e26_75, e26_78, e26_79, e26_82, e26_84, e26_87b0, e26_87b1, Bool.false_eq_true, Bool.true_eq_false, gfK, pfK, lnK, isC, alK_n, asK_n, List.getElem?_cons_zero, List.getElem?_cons_succ, List.set_cons_zero, List.set_cons_succ, List.length_cons, List.length_nil, ↓reduceIte, if_true, if_false, eq_self, and_true, true_and, and_self, Option.bind_some, Option.bind_none, Option.toList_some, Option.toList_none, List.cons_append, List.nil_append, mset_at, mset_ne, mset_2, mset_mset, Nat.reduceLT, Nat.reduceAdd, G_3, G_4, G_W0 hw, c3, g10', s1, hva1, s2, nz1, h7']
        · obtain ⟨t1, w1, y1, m1⟩ := hY b1 u1 v1 τ1 B tk va hB
          obtain ⟨t2, w2, y2, m2⟩ := hY1 b1 u1 v1 τ1 B t1 w1 hB m1
          have y3 := y_gtF (b := b1) (u := u1) (v := v1) (τ := τ1) (A := up B 63 (upd (B 63) (20 + 2 * nb) (nI p'))) (n0 := nI (ed t n p2)) (pl := nI p2) (dw := nI nw) (db := nI nb) m2 h7
          have y4 := ybar_42x (b := b1) (u := u1) (v := v1) (τ := τ1) (B := B) (x := nI p') (n0 := nI (ed t n p2)) (tk := t2) (pl := nI p2) (va := w2) (dw := nI nw) hn (show p2 < 2147483648 by omega)
          refine ⟨B2 B nb (nI p') 0, nI (ed t n p2), t2, nI p2, w2, nI nw, nI (nb + 1), ?_, FM_B2⟩
          unfold YS
          simp (disch := first | omega | assumption | exact Nat.le_of_ble_eq_true rfl) only [m159, e159_0, e159_1, e159_4, e159_6, e159_9, e159_10, e159_13, e159_14, e159_15, e159_18, e159_19, e159_22, e159_24, e159_25, e159_26, e159_29, e159_30, e159_31, e159_32, e159_35, e159_36, e159_37, e159_39, Bool.false_eq_true, Bool.true_eq_false, gfK, pfK, lnK, isC, alK_n, asK_n, List.getElem?_cons_zero, List.getElem?_cons_succ, List.set_cons_zero, List.set_cons_succ, List.length_cons, List.length_nil, ↓reduceIte, if_true, if_false, eq_self, and_true, true_and, and_self, Option.bind_some, Option.bind_none, Option.toList_some, Option.toList_none, List.cons_append, List.nil_append, mset_at, mset_ne, mset_2, mset_mset, Nat.reduceLT, Nat.reduceAdd, G_RD, S_RD, G_RD63, S_RD63, g10, y1, lm_2, la_20, la_21, y2, y3, y4]
    · have h2' := x_pass_f (b := b) (u := u) (v := v) (τ := τ) (x := 1) c1 (tS_ne h2 (by decide))
      refine Or.inr ⟨A1, p1, ?_, c1, hp1, FC_4 f1, fun b1 u1 v1 τ1 B tk va hB hM hX => ?_⟩
      · simp (disch := first | omega | assumption | exact Nat.le_of_ble_eq_true rfl) only [m26, e26_0, e26_1, e26_4, e26_6, e26_9, e26_10b0, e26_10b1, e26_11, e26_12, e26_15, e26_18, e26_19, e26_22, e26_25i, e26_25n, e26_25r, e26_26, e26_27, e26_30, e26_31, e26_34, e26_37, e26_38, e26_41, e26_43, e26_46, e26_49, e26_50b0, e26_50b1, e26_51, e26_52, e26_55, e26_58i, e26_58n, e26_58r, e26_59, e26_60, e26_63, e26_64, e26_67, e26_70, e26_71b0, e26_71b1, e26_72, e26_73, e26_74, e26_75, e26_78, e26_79, e26_82, e26_84, e26_87b0, e26_87b1, Bool.false_eq_true, Bool.true_eq_false, gfK, pfK, lnK, isC, alK_n, asK_n, List.getElem?_cons_zero, List.getElem?_cons_succ, List.set_cons_zero, List.set_cons_succ, List.length_cons, List.length_nil, ↓reduceIte, if_true, if_false, eq_self, and_true, true_and, and_self, Option.bind_some, Option.bind_none, Option.toList_some, Option.toList_none, List.cons_append, List.nil_append, mset_at, mset_ne, mset_2, mset_mset, Nat.reduceLT, Nat.reduceAdd, G_3, G_4, G_W0 hw, c3, g10', s1, hva1, h2', nz1]
      · obtain ⟨t1, w1, y1, m1⟩ := hY b1 u1 v1 τ1 B tk va hB
        have y2 := y_state_f (b := b1) (u := u1) (v := v1) (τ := τ1) (A := B) (n0 := nI (ed t n p1)) (pl := nI p1) (dw := nI nw) (db := nI nb) m1 h2
        have y4 := ybar_36x (b := b1) (u := u1) (v := v1) (τ := τ1) (B := B) (x := 0) (n0 := nI (ed t n p1)) (tk := t1) (pl := nI p1) (va := w1) (dw := nI nw) hn (show p1 < 2147483648 by omega)
        refine ⟨B2 B nb 0 0, nI (ed t n p1), t1, nI p1, w1, nI nw, nI (nb + 1), ?_, FM_B2⟩
        unfold YS
        simp (disch := first | omega | assumption | exact Nat.le_of_ble_eq_true rfl) only [m159, e159_0, e159_1, e159_4, e159_6, e159_9, e159_10, e159_13, e159_14, e159_15, e159_18, e159_19, e159_22, e159_24, e159_25, e159_26, e159_29, e159_30, e159_31, e159_32, e159_35, Bool.false_eq_true, Bool.true_eq_false, gfK, pfK, lnK, isC, alK_n, asK_n, List.getElem?_cons_zero, List.getElem?_cons_succ, List.set_cons_zero, List.set_cons_succ, List.length_cons, List.length_nil, ↓reduceIte, if_true, if_false, eq_self, and_true, true_and, and_self, Option.bind_some, Option.bind_none, Option.toList_some, Option.toList_none, List.cons_append, List.nil_append, mset_at, mset_ne, mset_2, mset_mset, Nat.reduceLT, Nat.reduceAdd, G_RD, S_RD, G_RD63, S_RD63, g10, y1, lm_2, la_20, la_21, y2, y4]
  · have : nb = 10 := by omega
    subst this
    have g10' : ¬ nI 10 < 10 := by decide
    refine Or.inr ⟨A, p, ?_, h, hp, FC_rf, fun b1 u1 v1 τ1 B tk va hB hM hX => ?_⟩
    · simp (disch := first | omega | assumption | exact Nat.le_of_ble_eq_true rfl) only [m26, e26_0, e26_1, e26_4, e26_6, e26_9, e26_10b0, e26_10b1, e26_11, e26_12, e26_15, e26_18, e26_19, e26_22, e26_25i, e26_25n, e26_25r, e26_26, e26_27, e26_30, e26_31, e26_34, e26_37, e26_38, e26_41, e26_43, e26_46, e26_49, e26_50b0, e26_50b1, e26_51, e26_52, e26_55, e26_58i, e26_58n, e26_58r, e26_59, e26_60, e26_63, e26_64, e26_67, e26_70, e26_71b0, e26_71b1, e26_72, e26_73, e26_74, e26_75, e26_78, e26_79, e26_82, e26_84, e26_87b0, e26_87b1, Bool.false_eq_true, Bool.true_eq_false, gfK, pfK, lnK, isC, alK_n, asK_n, List.getElem?_cons_zero, List.getElem?_cons_succ, List.set_cons_zero, List.set_cons_succ, List.length_cons, List.length_nil, ↓reduceIte, if_true, if_false, eq_self, and_true, true_and, and_self, Option.bind_some, Option.bind_none, Option.toList_some, Option.toList_none, List.cons_append, List.nil_append, mset_at, mset_ne, mset_2, mset_mset, Nat.reduceLT, Nat.reduceAdd, G_3, G_W0 hw, c3, g10']
    · refine ⟨B, nI (ed t n p), tk, nI p, va, nI nw, nI 10, ?_, FM_rf⟩
      unfold YS
      simp (disch := first | omega | assumption | exact Nat.le_of_ble_eq_true rfl) only [m159, e159_0, e159_1, e159_4, e159_6, e159_9, e159_10, e159_13, e159_14, e159_15, e159_18, e159_19, e159_22, e159_24, e159_25, e159_26, e159_29, e159_30, e159_31, e159_32, e159_35, e159_36, e159_37, e159_39, e159_42, e159_43, e159_46, e159_48, e159_49, e159_50, e159_53, e159_54, e159_55, e159_56, e159_59, e159_60, e159_61, e159_63, e159_66, e159_67i, e159_67r, e159_68, e159_71, e159_72, e159_73, e159_76, Bool.false_eq_true, Bool.true_eq_false, gfK, pfK, lnK, isC, alK_n, asK_n, List.getElem?_cons_zero, List.getElem?_cons_succ, List.set_cons_zero, List.set_cons_succ, List.length_cons, List.length_nil, ↓reduceIte, if_true, if_false, eq_self, and_true, true_and, and_self, Option.bind_some, Option.bind_none, Option.toList_some, Option.toList_none, List.cons_append, List.nil_append, mset_at, mset_ne, mset_2, mset_mset, Nat.reduceLT, Nat.reduceAdd, G_RD, eq_true (show nI 10 = 10 from rfl), y_fails]
end BARI
