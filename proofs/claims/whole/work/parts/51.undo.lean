/-! CALL undo. -/
section UNDO
variable {b : Nat} {u v : Int64} {A : Nat → Nat → Int32} {τ : Nat × Nat × Nat × (Nat → Int32)} {m t d i : Nat} {x y z : Int32} {σ : mS} {l3 : Option Value} {pr kd : Nat → Nat}
variable {tick kept : Int32} {mr ar lr nr : Nat} {mf af lf nf st : Nat → Int32}
theorem addM_lo {a : Int32} (hm : mr ≤ 8) {L : List Nat} (hL : ∀ j, j ∈ L → j < mr) {s : Nat → Int32} {i : Nat} (hi : i < 5 ∨ 29 ≤ i) : addM 5 3 a L s i = s i := addM_ne L s fun j hj => by
  have := hL j hj
  omega
theorem addM_33 {a : Int32} {L : List Nat} {s : Nat → Int32} {j : Nat} : addM 5 3 a L s (5 + 3 * j) = s (5 + 3 * j) := addM_ne L s fun k hk => by omega
theorem c_undo (hJ : JB tick mr mf ar af lr lf nr nf st) (hB : PKb pr kd) (x : Int32) : ∃ r mf' af' nf' s', (∀ b u v A τ, PKc pr kd A → evM 117 [.ref 0, .int x] (BS b u v A τ tick kept mr mf ar af lr lf nr nf) = some (some (.int r), (BS b u v A τ tick kept mr mf' ar af' lr lf nr nf'))) ∧ (∀ b u v A τ, A 60 0 = 0 → PKm pr kd A → evM 196 [.ref 60, .int x] (MS b u v A τ st) = some (some (.int r), (MS b u v A τ s'))) ∧ JB tick mr mf' ar af' lr lf nr nf' s' := by
  obtain ⟨⟨c1, c2, c3, c4, c5, s0, s1, s2, s3, s4⟩, jm, ja, jl, jn⟩ := id hJ
  rcases idx x (n := ar) (by omega) with hx | ⟨m, hm, rfl⟩
  · refine ⟨-1, mf, af, nf, st, fun b u v A τ _ => ?_, fun b u v A τ h0 _ => ?_, hJ⟩
    · simp (disch := first | omega | assumption | exact Nat.le_of_ble_eq_true rfl) only [m117, e117_0, e117_1, e117_4, e117_7, e117_8, e117_11, e117_14, e117_15, e117_16, e117_17, e117_20, e117_21, e117_24i, e117_24n, e117_24r, e117_25, e117_26, e117_29, e117_30, e117_33, e117_36, e117_37, e117_39, e117_42, e117_45, e117_46, e117_47, e117_50, e117_53, e117_54, e117_55, e117_58, e117_61, e117_62, e117_65, e117_67, e117_68, e117_69, e117_72, e117_73, e117_76, e117_77, Bool.false_eq_true, Bool.true_eq_false, gfK, pfK, lnK, isC, alK_n, asK_n, List.getElem?_cons_zero, List.getElem?_cons_succ, List.set_cons_zero, List.set_cons_succ, List.length_cons, List.length_nil, ↓reduceIte, if_true, if_false, eq_self, and_true, true_and, and_self, Option.bind_some, Option.bind_none, Option.toList_some, Option.toList_none, List.cons_append, List.nil_append, mset_at, mset_ne, mset_2, mset_mset, Nat.reduceLT, Nat.reduceAdd, B_0, B_30, B_S30, mTR, aTR, lTR, nTR, aHasN c3 hx]
    · simp (disch := first | omega | assumption | exact Nat.le_of_ble_eq_true rfl) only [m196, e196_0, e196_1, e196_2, e196_5, e196_6, e196_7, e196_10, e196_13, e196_14, Bool.false_eq_true, Bool.true_eq_false, gfK, pfK, lnK, isC, alK_n, asK_n, List.getElem?_cons_zero, List.getElem?_cons_succ, List.set_cons_zero, List.set_cons_succ, List.length_cons, List.length_nil, ↓reduceIte, if_true, if_false, eq_self, and_true, true_and, and_self, Option.bind_some, Option.bind_none, Option.toList_some, Option.toList_none, List.cons_append, List.nil_append, mset_at, mset_ne, mset_2, mset_mset, Nat.reduceLT, Nat.reduceAdd, M_60, M_thr h0, M_isMachine s1 (by omega), not_in hx]
  · have hin := is_in hm (by omega)
    have ell := fun b u v A τ => B_latestLine (b := b) (u := u) (v := v) (A := A) (τ := τ) (tick := tick) (kept := kept) (ar := ar) (af := af) (mr := mr) (mf := mf) (lr := lr) (nf := nf) (lf := lf) (a := nI m) c5
    rcases lastF_val (P := fun k => decide (nf (k * 10 + 1) = nI m)) nr with ⟨h1, h2⟩ | ⟨i, hi, h1, h2, h3⟩
    · have h2' : ∀ k, k < nr → ¬ st (205 + 10 * k + 1) = nI m := fun k hk => by
        rw [← (jn k hk).1 1 (by omega)]
        exact of_decide_eq_false (h2 k hk)
      rw [h1] at ell
      refine ⟨-2, mf, af, nf, st, fun b u v A τ _ => ?_, fun b u v A τ h0 _ => ?_, hJ⟩
      · simp (disch := first | omega | assumption | exact Nat.le_of_ble_eq_true rfl) only [m117, e117_0, e117_1, e117_4, e117_7, e117_8, e117_11, e117_14, e117_15, e117_16, e117_17, e117_20, e117_21, e117_24i, e117_24n, e117_24r, e117_25, e117_26, e117_29, e117_30, e117_33, e117_36, e117_37, e117_39, e117_42, e117_45, e117_46, e117_47, e117_50, e117_53, e117_54, e117_55, e117_58, e117_61, e117_62, e117_65, e117_67, e117_68, e117_69, e117_72, e117_73, e117_76, e117_77, Bool.false_eq_true, Bool.true_eq_false, gfK, pfK, lnK, isC, alK_n, asK_n, List.getElem?_cons_zero, List.getElem?_cons_succ, List.set_cons_zero, List.set_cons_succ, List.length_cons, List.length_nil, ↓reduceIte, if_true, if_false, eq_self, and_true, true_and, and_self, Option.bind_some, Option.bind_none, Option.toList_some, Option.toList_none, List.cons_append, List.nil_append, mset_at, mset_ne, mset_2, mset_mset, Nat.reduceLT, Nat.reduceAdd, B_0, B_30, B_S30, mTR, aTR, lTR, nTR, aHas, nz1, ell, show (-9 : Int32) < 0 from by decide]
      · have hlp := mundo_none (b := b) (u := u) (v := v) (A := A) (τ := τ) (l3 := none) c5 nr (Nat.le_refl _) h2'
        simp (disch := first | omega | assumption | exact Nat.le_of_ble_eq_true rfl) only [m196, e196_0, e196_1, e196_2, e196_5, e196_6, e196_7, e196_10, e196_13, e196_14, e196_15, e196_16, e196_19, e196_20, e196_21, e196_22, e196_23i, e196_23n, e196_23r, Bool.false_eq_true, Bool.true_eq_false, gfK, pfK, lnK, isC, alK_n, asK_n, List.getElem?_cons_zero, List.getElem?_cons_succ, List.set_cons_zero, List.set_cons_succ, List.length_cons, List.length_nil, ↓reduceIte, if_true, if_false, eq_self, and_true, true_and, and_self, Option.bind_some, Option.bind_none, Option.toList_some, Option.toList_none, List.cons_append, List.nil_append, mset_at, mset_ne, mset_2, mset_mset, Nat.reduceLT, Nat.reduceAdd, M_60, M_70, M_thr h0, M_isMachine s1 (by omega), hin, nz1, alK_l3, s3, hlp]
    · have h2 := of_decide_eq_true h2
      obtain ⟨ec, ⟨m', hm', e1⟩, ⟨d2, hd2, e2⟩, ⟨d3, hd3, e3⟩, ⟨t4, ht4, e4⟩, ⟨l6, hl6, e6⟩, e8, ⟨l, hl, e9⟩⟩ := jn i hi
      have f1 := ec 1 (by omega)
      have f3 := (ec 3 (by omega)).trans e3
      have f4 := ec 4 (by omega)
      have f7 := ec 7 (by omega)
      have f8 := ec 8 (by omega)
      have g1 : st (205 + 10 * i + 1) = nI m := f1.symm.trans h2
      have h3' : ∀ k, i < k → k < nr → ¬ st (205 + 10 * k + 1) = nI m := fun k hk hk2 => by
        rw [← (jn k hk2).1 1 (by omega)]
        exact of_decide_eq_false (h3 k hk hk2)
      have hlp := fun b u v A τ => mundo_at (b := b) (u := u) (v := v) (A := A) (τ := τ) (l3 := none) c5 g1 nr hi (Nat.le_refl _) h3'
      rw [h1] at ell
      have hk5 := (hB d3 hd3).2
      by_cases hu : st (205 + 10 * i + 8) = 0
      · by_cases hk : kd d3 = 4
        · obtain ⟨⟨a0, a1, a2, a3, a4⟩, ⟨n, hn, fn⟩, ⟨t', ht', ft⟩, k3, k4⟩ := ja m hm
          obtain ⟨L, L1, L2, L3⟩ := JB_m jm hn c2
          have hLm := ch_lt L _ L2
          have a1' := a1.trans fn
          refine ⟨nI i, addL 3 2 (-nf (i * 10 + 7)) L mf, upd af (m * 5) (nf (i * 10 + 4)), upd nf (i * 10 + 8) 1, addM 5 3 (-nf (i * 10 + 7)) L (upd (upd st (205 + 10 * i + 8) 1) (29 + 4 * m + 1) (nf (i * 10 + 4))), fun b u v A τ hP => ?_, fun b u v A τ h0 hP => ?_, ⟨c1, c2, c3, c4, c5, ?_, ?_, ?_, ?_, ?_⟩, ?_, ?_, ?_, ?_⟩
          · have hul := B_undoLine (b := b) (u := u) (v := v) (A := A) (τ := τ) (tick := tick) (kept := kept) (lr := lr) (lf := lf) c5 c3 c2 hi hm h2 (a1'.symm ▸ L1) L3
            have hkd := R_kindOf (b := b) (u := u) (v := v) (τ := τ) (tick := tick) (kept := kept) (mr := mr) (mf := mf) (ar := ar) (af := af) (lr := lr) (lf := lf) (nr := nr) (nf := nf) (fun d hd => (hP d hd).2) hd3
            rw [hk] at hkd
            simp (disch := first | omega | assumption | exact Nat.le_of_ble_eq_true rfl) only [m117, e117_0, e117_1, e117_4, e117_7, e117_8, e117_11, e117_14, e117_15, e117_16, e117_17, e117_20, e117_21, e117_24i, e117_24n, e117_24r, e117_25, e117_26, e117_29, e117_30, e117_33, e117_36, e117_37, e117_39, e117_42, e117_45, e117_46, e117_47, e117_50, e117_53, e117_54, e117_55, e117_58, e117_61, e117_62, e117_65, e117_67, e117_68, e117_69, e117_72, e117_73, e117_76, e117_77, Bool.false_eq_true, Bool.true_eq_false, gfK, pfK, lnK, isC, alK_n, asK_n, List.getElem?_cons_zero, List.getElem?_cons_succ, List.set_cons_zero, List.set_cons_succ, List.length_cons, List.length_nil, ↓reduceIte, if_true, if_false, eq_self, and_true, true_and, and_self, Option.bind_some, Option.bind_none, Option.toList_some, Option.toList_none, List.cons_append, List.nil_append, mset_at, mset_ne, mset_2, mset_mset, Nat.reduceLT, Nat.reduceAdd, B_0, B_30, B_S30, mTR, aTR, lTR, nTR, aHas, nz1, ell, nI_not_neg, nGet_8, f8, hu, nGet_3, f3, hkd, show (nI 4 = 4) = True from eq_true rfl, hul]
          · have hkd := (hP d3 hd3).2
            rw [hk] at hkd
            have hsp := M_spends (b := b) (u := u) (v := v) (A := A) (τ := τ) (s := upd (upd st (205 + 10 * i + 8) 1) (29 + 4 * m + 1) (nf (i * 10 + 4))) (y := -nf (i * 10 + 7)) (m := m) (L := L) c2 (by omega) (by
              rw [upd_ne (by omega), upd_ne (by omega), fn]
              exact ch_congr (fun k hk => by rw [upd_ne (by omega), upd_ne (by omega)]) L _ L2)
            simp (disch := first | omega | assumption | exact Nat.le_of_ble_eq_true rfl) only [m196, e196_0, e196_1, e196_2, e196_5, e196_6, e196_7, e196_10, e196_13, e196_14, e196_15, e196_16, e196_19, e196_20, e196_21, e196_22, e196_23i, e196_23n, e196_23r, Bool.false_eq_true, Bool.true_eq_false, gfK, pfK, lnK, isC, alK_n, asK_n, List.getElem?_cons_zero, List.getElem?_cons_succ, List.set_cons_zero, List.set_cons_succ, List.length_cons, List.length_nil, ↓reduceIte, if_true, if_false, eq_self, and_true, true_and, and_self, Option.bind_some, Option.bind_none, Option.toList_some, Option.toList_none, List.cons_append, List.nil_append, mset_at, mset_ne, mset_2, mset_mset, Nat.reduceLT, Nat.reduceAdd, M_60, M_70, M_thr h0, M_isMachine s1 (by omega), hin, nz1, alK_l3, s3, hlp]
            simp (disch := first | omega | assumption | exact Nat.le_of_ble_eq_true rfl) only [m196, e196_53, e196_54, e196_57, e196_59, e196_60, e196_63, e196_65, e196_66, e196_67, e196_68i, e196_68n, e196_68r, e196_69, e196_70, e196_73, e196_74, e196_76, e196_77, e196_78, e196_79, e196_82, e196_83, e196_86, e196_87, e196_90, e196_91, e196_92, e196_93, e196_94, e196_95, e196_96, e196_99, e196_101, e196_102, e196_103, e196_106, e196_107, e196_109, e196_110, e196_111, e196_112, e196_113, e196_116, e196_118, e196_119, e196_120, e196_121, e196_122, e196_123, e196_124, e196_125, e196_128, e196_129, e196_130, e196_131, e196_132, e196_133, e196_134, e196_135, e196_136, e196_139, e196_140, e196_142, e196_143, e196_144, e196_145, e196_148, e196_149, Bool.false_eq_true, Bool.true_eq_false, gfK, pfK, lnK, isC, alK_n, asK_n, List.getElem?_cons_zero, List.getElem?_cons_succ, List.set_cons_zero, List.set_cons_succ, List.length_cons, List.length_nil, ↓reduceIte, if_true, if_false, eq_self, and_true, true_and, and_self, Option.bind_some, Option.bind_none, Option.toList_some, Option.toList_none, List.cons_append, List.nil_append, mset_at, mset_ne, mset_2, mset_mset, Nat.reduceLT, Nat.reduceAdd, M_60, M_68, M_70, M_S70, nI_0_le, lm_10, la_205, ra_8, ra_3, ra_4, ra_7, lm_4, la_29, ra_1, hu, e3, hkd, show ¬ (0 : Int32) = 1 from by decide, show (nI 4 = 4) = True from eq_true rfl, upd_ne, ← f4, ← f7, hsp]
          · rw [addM_lo c2 hLm (by omega)]
            simp (disch := omega) only [upd_at, upd_ne, s0]
          · rw [addM_lo c2 hLm (by omega)]
            simp (disch := omega) only [upd_at, upd_ne, s1]
          · rw [addM_lo c2 hLm (by omega)]
            simp (disch := omega) only [upd_at, upd_ne, s2]
          · rw [addM_lo c2 hLm (by omega)]
            simp (disch := omega) only [upd_at, upd_ne, s3]
          · rw [addM_lo c2 hLm (by omega)]
            simp (disch := omega) only [upd_at, upd_ne, s4]
          · exact JBm_add c2 L _ _ hLm (JBm_s c2 (fun i h1 h2 => by simp (disch := omega) only [upd_at, upd_ne]) jm)
          · intro j hj
            obtain ⟨⟨b0, b1, b2, b3, b4⟩, g1', g2', g3', g4'⟩ := ja j hj
            rw [addM_lo c2 hLm (i := 29 + 4 * j) (by omega), addM_lo c2 hLm (i := 29 + 4 * j + 1) (by omega), addM_lo c2 hLm (i := 29 + 4 * j + 2) (by omega), addM_lo c2 hLm (i := 29 + 4 * j + 3) (by omega)]
            have hc : cntF (fun k => decide (upd nf (i * 10 + 8) 1 (k * 10 + 1) = nI j)) nr = cntF (fun k => decide (nf (k * 10 + 1) = nI j)) nr := cntF_congr nr fun k hk => by rw [upd_ne (by omega)]
            rw [hc]
            by_cases hjm : j = m
            · subst hjm
              rw [upd_at, upd_at]
              simp (disch := omega) only [upd_at, upd_ne]
              exact ⟨⟨trivial, b1, b2, b3, b4⟩, g1', ⟨t4, ht4, f4.trans e4⟩, g3', g4'⟩
            · simp (disch := omega) only [upd_at, upd_ne]
              exact ⟨⟨b0, b1, b2, b3, b4⟩, g1', g2', g3', g4'⟩
          · exact JBl_s c4 (fun i h1 h2 => by rw [addM_lo c2 hLm (by omega)]; simp (disch := omega) only [upd_at, upd_ne]) jl
          · intro j hj
            obtain ⟨gc, g1', g2', g3', g4', g6', g8', g9'⟩ := jn j hj
            have el : ∀ c, c < 10 → addM 5 3 (-nf (i * 10 + 7)) L (upd (upd st (205 + 10 * i + 8) 1) (29 + 4 * m + 1) (nf (i * 10 + 4))) (205 + 10 * j + c) = upd st (205 + 10 * i + 8) 1 (205 + 10 * j + c) := fun c hc => by
              rw [addM_lo c2 hLm (by omega), upd_ne (by omega)]
            rw [el 1 (by omega), el 2 (by omega), el 3 (by omega), el 4 (by omega), el 6 (by omega), el 8 (by omega), el 9 (by omega)]
            by_cases hji : j = i
            · subst hji
              refine ⟨fun c hc => ?_, ?_, ?_, ?_, ?_, ?_, ?_, ?_⟩
              · rw [el c hc]
                by_cases hc8 : c = 8
                · subst hc8
                  rw [upd_at, upd_at]
                · rw [upd_ne (by omega), upd_ne (by omega)]
                  exact gc c hc
              · simp (disch := omega) only [upd_at, upd_ne]; exact g1'
              · simp (disch := omega) only [upd_at, upd_ne]; exact g2'
              · simp (disch := omega) only [upd_at, upd_ne]; exact g3'
              · simp (disch := omega) only [upd_at, upd_ne]; exact g4'
              · simp (disch := omega) only [upd_at, upd_ne]; exact g6'
              · exact Or.inr upd_at
              · simp (disch := omega) only [upd_at, upd_ne]; exact g9'
            · refine ⟨fun c hc => ?_, ?_⟩
              · rw [el c hc, upd_ne (by omega), upd_ne (by omega)]
                exact gc c hc
              · simp (disch := omega) only [upd_at, upd_ne]
                exact ⟨g1', g2', g3', g4', g6', g8', g9'⟩
        · have hne : ¬ nI (kd d3) = 4 := fun g => hk (nI_inj (by omega) (by decide) g)
          refine ⟨-2, mf, af, nf, st, fun b u v A τ hP => ?_, fun b u v A τ h0 hP => ?_, hJ⟩
          · have hkd := R_kindOf (b := b) (u := u) (v := v) (τ := τ) (tick := tick) (kept := kept) (mr := mr) (mf := mf) (ar := ar) (af := af) (lr := lr) (lf := lf) (nr := nr) (nf := nf) (fun d hd => (hP d hd).2) hd3
            simp (disch := first | omega | assumption | exact Nat.le_of_ble_eq_true rfl) only [m117, e117_0, e117_1, e117_4, e117_7, e117_8, e117_11, e117_14, e117_15, e117_16, e117_17, e117_20, e117_21, e117_24i, e117_24n, e117_24r, e117_25, e117_26, e117_29, e117_30, e117_33, e117_36, e117_37, e117_39, e117_42, e117_45, e117_46, e117_47, e117_50, e117_53, e117_54, e117_55, e117_58, e117_61, e117_62, e117_65, e117_67, e117_68, e117_69, e117_72, e117_73, e117_76, e117_77, Bool.false_eq_true, Bool.true_eq_false, gfK, pfK, lnK, isC, alK_n, asK_n, List.getElem?_cons_zero, List.getElem?_cons_succ, List.set_cons_zero, List.set_cons_succ, List.length_cons, List.length_nil, ↓reduceIte, if_true, if_false, eq_self, and_true, true_and, and_self, Option.bind_some, Option.bind_none, Option.toList_some, Option.toList_none, List.cons_append, List.nil_append, mset_at, mset_ne, mset_2, mset_mset, Nat.reduceLT, Nat.reduceAdd, B_0, B_30, B_S30, mTR, aTR, lTR, nTR, aHas, nz1, ell, nI_not_neg, nGet_8, f8, hu, nGet_3, f3, hkd, hne]
          · have hkd := (hP d3 hd3).2
            simp (disch := first | omega | assumption | exact Nat.le_of_ble_eq_true rfl) only [m196, e196_0, e196_1, e196_2, e196_5, e196_6, e196_7, e196_10, e196_13, e196_14, e196_15, e196_16, e196_19, e196_20, e196_21, e196_22, e196_23i, e196_23n, e196_23r, Bool.false_eq_true, Bool.true_eq_false, gfK, pfK, lnK, isC, alK_n, asK_n, List.getElem?_cons_zero, List.getElem?_cons_succ, List.set_cons_zero, List.set_cons_succ, List.length_cons, List.length_nil, ↓reduceIte, if_true, if_false, eq_self, and_true, true_and, and_self, Option.bind_some, Option.bind_none, Option.toList_some, Option.toList_none, List.cons_append, List.nil_append, mset_at, mset_ne, mset_2, mset_mset, Nat.reduceLT, Nat.reduceAdd, M_60, M_70, M_thr h0, M_isMachine s1 (by omega), hin, nz1, alK_l3, s3, hlp]
            simp (disch := first | omega | assumption | exact Nat.le_of_ble_eq_true rfl) only [m196, e196_53, e196_54, e196_57, e196_59, e196_60, e196_63, e196_65, e196_66, e196_67, e196_68i, e196_68n, e196_68r, e196_69, e196_70, e196_73, e196_74, e196_76, e196_77, e196_78, e196_79, e196_82, e196_83, e196_86, e196_87, e196_90, e196_91, e196_92, e196_93, e196_94, e196_95, e196_96, e196_99, e196_101, Bool.false_eq_true, Bool.true_eq_false, gfK, pfK, lnK, isC, alK_n, asK_n, List.getElem?_cons_zero, List.getElem?_cons_succ, List.set_cons_zero, List.set_cons_succ, List.length_cons, List.length_nil, ↓reduceIte, if_true, if_false, eq_self, and_true, true_and, and_self, Option.bind_some, Option.bind_none, Option.toList_some, Option.toList_none, List.cons_append, List.nil_append, mset_at, mset_ne, mset_2, mset_mset, Nat.reduceLT, Nat.reduceAdd, M_60, M_68, M_70, nI_0_le, lm_10, la_205, ra_8, ra_3, hu, e3, hkd, hne, show ¬ (0 : Int32) = 1 from by decide]
      · have hu1 := e8.resolve_left hu
        refine ⟨-2, mf, af, nf, st, fun b u v A τ hP => ?_, fun b u v A τ h0 hP => ?_, hJ⟩
        · simp (disch := first | omega | assumption | exact Nat.le_of_ble_eq_true rfl) only [m117, e117_0, e117_1, e117_4, e117_7, e117_8, e117_11, e117_14, e117_15, e117_16, e117_17, e117_20, e117_21, e117_24i, e117_24n, e117_24r, e117_25, e117_26, e117_29, e117_30, e117_33, e117_36, e117_37, e117_39, e117_42, e117_45, e117_46, e117_47, e117_50, e117_53, e117_54, e117_55, e117_58, e117_61, e117_62, e117_65, e117_67, e117_68, e117_69, e117_72, e117_73, e117_76, e117_77, Bool.false_eq_true, Bool.true_eq_false, gfK, pfK, lnK, isC, alK_n, asK_n, List.getElem?_cons_zero, List.getElem?_cons_succ, List.set_cons_zero, List.set_cons_succ, List.length_cons, List.length_nil, ↓reduceIte, if_true, if_false, eq_self, and_true, true_and, and_self, Option.bind_some, Option.bind_none, Option.toList_some, Option.toList_none, List.cons_append, List.nil_append, mset_at, mset_ne, mset_2, mset_mset, Nat.reduceLT, Nat.reduceAdd, B_0, B_30, B_S30, mTR, aTR, lTR, nTR, aHas, nz1, ell, nI_not_neg, nGet_8, f8, hu]
        · simp (disch := first | omega | assumption | exact Nat.le_of_ble_eq_true rfl) only [m196, e196_0, e196_1, e196_2, e196_5, e196_6, e196_7, e196_10, e196_13, e196_14, e196_15, e196_16, e196_19, e196_20, e196_21, e196_22, e196_23i, e196_23n, e196_23r, Bool.false_eq_true, Bool.true_eq_false, gfK, pfK, lnK, isC, alK_n, asK_n, List.getElem?_cons_zero, List.getElem?_cons_succ, List.set_cons_zero, List.set_cons_succ, List.length_cons, List.length_nil, ↓reduceIte, if_true, if_false, eq_self, and_true, true_and, and_self, Option.bind_some, Option.bind_none, Option.toList_some, Option.toList_none, List.cons_append, List.nil_append, mset_at, mset_ne, mset_2, mset_mset, Nat.reduceLT, Nat.reduceAdd, M_60, M_70, M_thr h0, M_isMachine s1 (by omega), hin, nz1, alK_l3, s3, hlp]
          simp (disch := first | omega | assumption | exact Nat.le_of_ble_eq_true rfl) only [m196, e196_53, e196_54, e196_57, e196_59, e196_60, e196_63, e196_65, e196_66, e196_67, e196_68i, e196_68n, e196_68r, e196_69, e196_70, e196_73, e196_74, e196_76, e196_77, e196_78, e196_79, e196_82, e196_83, e196_86, e196_87, e196_90, e196_91, e196_92, e196_93, e196_94, e196_95, e196_96, e196_99, e196_101, Bool.false_eq_true, Bool.true_eq_false, gfK, pfK, lnK, isC, alK_n, asK_n, List.getElem?_cons_zero, List.getElem?_cons_succ, List.set_cons_zero, List.set_cons_succ, List.length_cons, List.length_nil, ↓reduceIte, if_true, if_false, eq_self, and_true, true_and, and_self, Option.bind_some, Option.bind_none, Option.toList_some, Option.toList_none, List.cons_append, List.nil_append, mset_at, mset_ne, mset_2, mset_mset, Nat.reduceLT, Nat.reduceAdd, M_60, M_68, M_70, nI_0_le, lm_10, la_205, ra_8, ra_3, hu1]
end UNDO
