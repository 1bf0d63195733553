/-! READING A WAY: the whole item. -/
section WAY3
variable {b w : Nat} {u v : Int64} {A B : Nat → Nat → Int32} {τ : Nat × Nat × Nat × (Nat → Int32)} {lc : Nat → Nat} {lt : Nat → Nat → Nat} {fr to : Nat → Nat} {st : Nat → Int32} {nw nb n i j p e c k q s d : Nat} {t : Nat → Nat} {x y z S n0 tk pl va fa dw db : Int32} {σ : mS} {l1 l2 l3 l4 l5 : Option Value}
theorem MD_MW4 (hl : lc k = 0) (h : MD B lc lt nb fr to st) : MW4 B lc lt k 0 nb fr to st := by
  refine ⟨?_, fun j hj => absurd hj (Nat.not_lt_zero j)⟩
  rw [show set1 lc k 0 = lc from by
    funext j
    by_cases e : j = k
    · rw [e, set1_at, hl]
    · rw [set1_ne e]]
  exact h
/-- a way that fails in its head: the model behind the fault -/
theorem yway_94x (hq : q < 2147483648) : ev 153 94 [some (.ref 60), l1, l2, some (.int 0), some (.int 0), some (.int 1)] [] (G b u v (RD A n0 tk pl va (nI q) dw db) τ) = some (none, G b u v (RD A n0 tk pl va (nI q) dw db) τ) := by
  have hx := fun l1 l2 l3 l4 l5 => yway_x (b := b) (u := u) (v := v) (τ := τ) (A := A) (n0 := n0) (tk := tk) (pl := pl) (va := va) (dw := dw) (db := db) (l1 := l1) (l2 := l2) (l3 := l3) (l4 := l4) (l5 := l5) hq
  rw [e153_94]
  simp (disch := first | omega | assumption | exact Nat.le_of_ble_eq_true rfl) only [m153, e153_96, e153_99, e153_100, e153_103, e153_106, e153_107, e153_110, e153_111, e153_114, e153_116, e153_117, e153_120, e153_121, e153_122, e153_125, e153_126, e153_127, e153_128, e153_129, e153_132, e153_133, e153_136, e153_139, e153_140, e153_141, e153_142, e153_145, e153_146, e153_147i, e153_147n, e153_147r, e153_148i, e153_148n, e153_148r, e153_151, e153_152, e153_155, e153_156, e153_158, e153_159, e153_160, e153_163, e153_164, e153_165, e153_168, e153_169, e153_172, e153_173, e153_176, e153_177, e153_180, e153_181i, e153_181n, e153_181r, e153_183, Bool.false_eq_true, Bool.true_eq_false, gfK, pfK, lnK, isC, alK_n, asK_n, List.getElem?_cons_zero, List.getElem?_cons_succ, List.set_cons_zero, List.set_cons_succ, List.length_cons, List.length_nil, ↓reduceIte, if_true, if_false, eq_self, and_true, true_and, and_self, Option.bind_some, Option.bind_none, Option.toList_some, Option.toList_none, List.cons_append, List.nil_append, mset_at, mset_ne, mset_2, mset_mset, Nat.reduceLT, Nat.reduceAdd, nz1, G_RD, y_ill hq, hx]
theorem yway_94f (hp : p ≤ n) (hn : n ≤ 600) (hM : MTk t n p tk va) (h1 : ¬ tS t n p = 1) : ev 153 94 [some (.ref 60), l1, l2, some (.int 0), some (.int 0), some (.int 1)] [] (G b u v (RD A n0 tk (nI p) va (-1) dw db) τ) = some (none, G b u v (RD A n0 tk (nI p) va (nI p) dw db) τ) := by
  have h3 := (tk_3 hM) ▸ h1
  have hx := fun l1 l2 => yway_94x (b := b) (u := u) (v := v) (τ := τ) (A := A) (n0 := n0) (tk := tk) (pl := nI p) (va := va) (dw := dw) (db := db) (l1 := l1) (l2 := l2) (show p < 2147483648 by omega)
  rw [e153_94]
  simp (disch := first | omega | assumption | exact Nat.le_of_ble_eq_true rfl) only [m153, e153_96, e153_99, e153_100, e153_103, e153_106, e153_107, e153_110, e153_111, e153_114, e153_116, e153_117, e153_120, e153_121, e153_122, e153_125, e153_126, e153_127, e153_128, e153_129, e153_132, e153_133, e153_136, e153_139, e153_140, e153_141, e153_142, e153_145, e153_146, e153_147i, e153_147n, e153_147r, e153_148i, e153_148n, e153_148r, e153_151, e153_152, e153_155, e153_156, e153_158, e153_159, e153_160, e153_163, e153_164, e153_165, e153_168, e153_169, e153_172, e153_173, e153_176, e153_177, e153_180, e153_181i, e153_181n, e153_181r, e153_183, Bool.false_eq_true, Bool.true_eq_false, gfK, pfK, lnK, isC, alK_n, asK_n, List.getElem?_cons_zero, List.getElem?_cons_succ, List.set_cons_zero, List.set_cons_succ, List.length_cons, List.length_nil, ↓reduceIte, if_true, if_false, eq_self, and_true, true_and, and_self, Option.bind_some, Option.bind_none, Option.toList_some, Option.toList_none, List.cons_append, List.nil_append, mset_at, mset_ne, mset_2, mset_mset, Nat.reduceLT, Nat.reduceAdd, nz1, G_RD, y_well, h3, y_fails, hx]
theorem way_item (hw : w = 8 ∨ w = 19) (hT : TX A n t) (hp : p ≤ n) (h : CAt A n t p) (h1 : tS t n p = 1) (hC : CD A w lc lt nw nb fr to st) (hD : DF lc lt nw nb fr to st) : ROk b u v τ w n t A p nw nb (evM 24 [.ref 3, .ref w] (G b u v A τ)) (fun B => MD B lc lt nb fr to st) (fun σ => evM 153 [.ref 60] σ) ∨ RNo b u v τ w n t A p nw nb (evM 24 [.ref 3, .ref w] (G b u v A τ)) (fun B => MD B lc lt nb fr to st) (fun σ => evM 153 [.ref 60] σ) := by
  have h9 := hT.1
  have c2 := hC.2.1
  have hpn : p < n := by
    by_cases g : p = n
    · rw [g, tS_n] at h1
      omega
    · omega
  have hnw := hD.2.1
  by_cases hn : nw < 60
  · have g60 : ¬ nI nw = 60 := fun g => by have := nI_inj (i := nw) (j := 60) (by omega) (by decide) g; omega
    have g60' : nI nw < 60 := (nI_ltI (a := nw) (b := 60) (by omega) (by decide)).2 hn
    have hs := tV_1 h1
    obtain ⟨s, hsd⟩ : ∃ s, s = tV t n p := ⟨_, rfl⟩
    have hva := x_value (b := b) (u := u) (v := v) (τ := τ) h
    rw [cV_tV (Or.inl h1), ← hsd] at hva
    rw [← hsd] at hs
    obtain ⟨A1, s1, c1, f1⟩ := x_step (b := b) (u := u) (v := v) (τ := τ) h
    have hp1 := nx_le (t := t) hp
    obtain ⟨p1, hp1d⟩ : ∃ p1, p1 = nx t n p := ⟨_, rfl⟩
    have hpp1 := nx_gt (t := t) hpn
    rw [← hp1d] at c1 hp1 hpp1
    have hC1 := CD_of (A' := A1) (fun k a _ => f1 k (by omega)) hC
    have hso1 := x_sort (b := b) (u := u) (v := v) (τ := τ) c1
    have hva1 := x_value (b := b) (u := u) (v := v) (τ := τ) c1
    have hY : ∀ (b1 : Nat) (u1 v1 : Int64) (τ1 : Nat × Nat × Nat × (Nat → Int32)) (B : Nat → Nat → Int32) (tk va : Int32), TY B n t → MTk t n p tk va → ∃ tk' va', evM 155 [.ref 60] (G b1 u1 v1 (RD B (nI (ed t n p)) tk (nI p) va (-1) (nI nw) (nI nb)) τ1) = some (some (.int (nI s)), G b1 u1 v1 (RD B (nI (ed t n p1)) tk' (nI p1) va' (-1) (nI nw) (nI nb)) τ1) ∧ MTk t n p1 tk' va' := by
      intro b1 u1 v1 τ1 B tk va hB hM
      have := y_state_t (b := b1) (u := u1) (v := v1) (τ := τ1) (dw := nI nw) (db := nI nb) hB hp hM h1
      rw [← hp1d, ← hsd] at this
      exact this
    by_cases h2 : tS t n p1 = 2
    · have hd := tV_2 h2
      obtain ⟨d, hdd⟩ : ∃ d, d = tV t n p1 := ⟨_, rfl⟩
      rw [cV_tV (Or.inr h2), ← hdd] at hva1
      rw [h2, show nI 2 = 2 from rfl] at hso1
      rw [← hdd] at hd
      have hli := W_lotsIn (b := b) (u := u) (v := v) (τ := τ) hw hC1.1 hs hd
      have hle := (hD.1 (s * 8 + d) (by omega)).1
      have hpn1 : p1 < n := by
        by_cases g : p1 = n
        · rw [g, tS_n] at h2
          omega
        · omega
      by_cases hl : lc (s * 8 + d) = 0
      · obtain ⟨A2, s2, c2', f2⟩ := x_step (b := b) (u := u) (v := v) (τ := τ) c1
        have hp2 := nx_le (t := t) hp1
        obtain ⟨p2, hp2d⟩ : ∃ p2, p2 = nx t n p1 := ⟨_, rfl⟩
        have hpp2 := nx_gt (t := t) hpn1
        rw [← hp2d] at c2' hp2 hpp2
        have hY2 : ∀ (b1 : Nat) (u1 v1 : Int64) (τ1 : Nat × Nat × Nat × (Nat → Int32)) (B : Nat → Nat → Int32) (tk va : Int32), TY B n t → ∃ tk' va', evM 148 [.ref 60] (G b1 u1 v1 (RD B (nI (ed t n p1)) tk (nI p1) va (-1) (nI nw) (nI nb)) τ1) = some (none, G b1 u1 v1 (RD B (nI (ed t n p2)) tk' (nI p2) va' (-1) (nI nw) (nI nb)) τ1) ∧ MTk t n p2 tk' va' := by
          intro b1 u1 v1 τ1 B tk va hB
          have := y_step (b := b1) (u := u1) (v := v1) (τ := τ1) (tk := tk) (va := va) (fa := -1) (dw := nI nw) (db := nI nb) hB hp1
          rw [← hp2d] at this
          exact this
        have k8 : 8 * s + d = s * 8 + d := by omega
        by_cases h7 : tS t n p2 = 7
        · obtain ⟨A3, s3, c3, f3⟩ := x_pass_t (b := b) (u := u) (v := v) (τ := τ) (x := 7) c2' (by rw [h7]; rfl)
          have hp3 := nx_le (t := t) hp2
          have hpn2 : p2 < n := by
            by_cases g : p2 = n
            · rw [g, tS_n] at h7
              omega
            · omega
          obtain ⟨p3, hp3d⟩ : ∃ p3, p3 = nx t n p2 := ⟨_, rfl⟩
          have hpp3 := nx_gt (t := t) hpn2
          rw [← hp3d] at c3 hp3 hpp3
          have hso3 := x_sort (b := b) (u := u) (v := v) (τ := τ) c3
          have hY3 : ∀ (b1 : Nat) (u1 v1 : Int64) (τ1 : Nat × Nat × Nat × (Nat → Int32)) (B : Nat → Nat → Int32) (tk va : Int32), TY B n t → MTk t n p2 tk va → ∃ tk' va', evM 156 [.ref 60, .int 62] (G b1 u1 v1 (RD B (nI (ed t n p2)) tk (nI p2) va (-1) (nI nw) (nI nb)) τ1) = some (none, G b1 u1 v1 (RD B (nI (ed t n p3)) tk' (nI p3) va' (-1) (nI nw) (nI nb)) τ1) ∧ MTk t n p3 tk' va' := by
            intro b1 u1 v1 τ1 B tk va hB hM
            have := y_gt (b := b1) (u := u1) (v := v1) (τ := τ1) (dw := nI nw) (db := nI nb) hB hp2 hM h7
            rw [← hp3d] at this
            exact this
          have hF : FC w A A3 := FC_tr (FC_4 f1) (FC_tr (FC_4 f2) (FC_4 f3))
          by_cases h3 : tS t n p3 = 1
          · have hC3 := CD_of (A' := A3) (fun k a _ => f3 k (by omega)) (CD_of (A' := A2) (fun k a _ => f2 k (by omega)) hC1)
            have hL := way_loop (b := b) (u := u) (v := v) (τ := τ) (l1 := some (.int (nI s))) hw hs hd hn 4 0 p3 A3 lc lt (by omega) (TX_FC hw hF hT) hp3 c3 hC3 hD hl
            rw [h3, show nI 1 = 1 from rfl] at hso3
            have hec : evM 24 [.ref 3, .ref w] (G b u v A τ) = ev 24 91 [some (.ref 3), some (.ref w), some (.int (nI s)), some (.int (nI d)), some (.int 0)] [] (G b u v A3 τ) := by
              simp (disch := first | omega | assumption | exact Nat.le_of_ble_eq_true rfl) only [m24, e24_0, e24_1, e24_4, e24_6, e24_9, e24_10b0, e24_10b1, e24_11, e24_12, e24_15, e24_18i, e24_18n, e24_18r, e24_19, e24_20, e24_23, e24_26, e24_27, e24_30, e24_33i, e24_33n, e24_33r, e24_34, e24_35, e24_38, e24_41, e24_42, e24_45, e24_46, e24_47, e24_48, e24_51, e24_54, e24_55b0, e24_55b1, e24_56, e24_57, e24_60, e24_63, e24_64, e24_67, e24_69, e24_72, e24_75, e24_76, e24_79, e24_82, e24_83, e24_86, e24_87b0, e24_87b1, e24_88, e24_89i, e24_89n, e24_89r, e24_93, e24_94, e24_97, e24_98, e24_101, e24_104, e24_105, e24_108, e24_109, e24_110, e24_111, e24_112, e24_115, e24_118, e24_121, e24_124, e24_125b0, e24_125b1, e24_126, e24_127, e24_130, e24_133i, e24_133n, e24_133r, e24_136, e24_139, e24_140i, e24_140r, e24_141, e24_144, e24_145, e24_146, e24_149, e24_150, e24_153, e24_155, e24_158b0, e24_158b1, Bool.false_eq_true, Bool.true_eq_false, gfK, pfK, lnK, isC, alK_n, asK_n, List.getElem?_cons_zero, List.getElem?_cons_succ, List.set_cons_zero, List.set_cons_succ, List.length_cons, List.length_nil, ↓reduceIte, if_true, if_false, eq_self, and_true, true_and, and_self, Option.bind_some, Option.bind_none, Option.toList_some, Option.toList_none, List.cons_append, List.nil_append, mset_at, mset_ne, mset_2, mset_mset, Nat.reduceLT, Nat.reduceAdd, G_3, G_4, G_W0 hw, c2, g60', hva, s1, hva1, hso1, hli, hl, le0_nI, s2, s3, nz1, hso3]
            have hem : ∀ (b1 : Nat) (u1 v1 : Int64) (τ1 : Nat × Nat × Nat × (Nat → Int32)) (B : Nat → Nat → Int32) (tk va : Int32), TY B n t → MTk t n p tk va → MD B lc lt nb fr to st → ∃ B' tk' va', TY B' n t ∧ MTk t n p3 tk' va' ∧ MW4 B' lc lt (s * 8 + d) 0 nb fr to st ∧ FM B B' ∧ evM 153 [.ref 60] (G b1 u1 v1 (YS B n t p tk va (-1) (nI nw) (nI nb)) τ1) = ev 153 94 [some (.ref 60), some (.int (nI s)), some (.int (nI (640 + 5 * (s * 8 + d)))), some (.int (setI (lt (s * 8 + d)) 0)), some (.int (nI 0)), some (.int (bI (decide (tS t n p3 = 1))))] [] (G b1 u1 v1 (YS B' n t p3 tk' va' (-1) (nI nw) (nI nb)) τ1) := by
              intro b1 u1 v1 τ1 B tk va hB hM hX
              obtain ⟨t1, w1, y1, m1⟩ := hY b1 u1 v1 τ1 B tk va hB hM
              have e2 := (tk_2 m1).symm ▸ h2
              have ev1 := m1.2.1 (Or.inr h2)
              rw [← hdd] at ev1
              obtain ⟨t2, w2, y2, m2⟩ := hY2 b1 u1 v1 τ1 B t1 w1 hB
              obtain ⟨t3, w3, y3, m3⟩ := hY3 b1 u1 v1 τ1 B t2 w2 hB m2
              refine ⟨B, t3, w3, hB, m3, MD_MW4 hl hX, FM_rf, ?_⟩
              have hx0 := (hX.1 (s * 8 + d) (by omega)).1
              rw [hl] at hx0
              have hx0' : B 62 (640 + 5 * (s * 8 + d)) = 0 := hx0
              rw [decide_eq_true h3, bI_t]
              show _ = ev 153 94 [some (.ref 60), some (.int (nI s)), some (.int (nI (640 + 5 * (s * 8 + d)))), some (.int 0), some (.int 0), some (.int 1)] [] _
              rw [e2, ev1] at y1 y2
              unfold YS
              simp (disch := first | omega | assumption | exact Nat.le_of_ble_eq_true rfl) only [m153, e153_0, e153_1, e153_4, e153_6, e153_9, e153_10, e153_13, e153_14, e153_15, e153_18i, e153_18n, e153_18r, e153_19, e153_22, e153_23, e153_25, e153_26, e153_27, e153_28, e153_31, e153_32, e153_35, e153_36, e153_39, e153_42, e153_43, e153_44, e153_45, e153_46i, e153_46n, e153_46r, e153_47, e153_48, e153_51, e153_54, e153_55, e153_58, e153_59, e153_62, e153_63, e153_66, e153_67, e153_68, e153_71, e153_72, e153_75, e153_76, e153_77, e153_80, e153_81, e153_83, e153_86, e153_87i, e153_87n, e153_87r, e153_88, e153_89i, e153_89n, e153_89r, e153_91, e153_92i, e153_92n, e153_92r, e153_96, e153_99, e153_100, e153_103, e153_106, e153_107, e153_110, e153_111, e153_114, e153_116, e153_117, e153_120, e153_121, e153_122, e153_125, e153_126, e153_127, e153_128, e153_129, e153_132, e153_133, e153_136, e153_139, e153_140, e153_141, e153_142, e153_145, e153_146, e153_147i, e153_147n, e153_147r, e153_148i, e153_148n, e153_148r, e153_151, e153_152, e153_155, e153_156, e153_158, e153_159, e153_160, e153_163, e153_164, e153_165, e153_168, e153_169, e153_172, e153_173, e153_176, e153_177, e153_180, e153_181i, e153_181n, e153_181r, e153_183, e153_186, e153_187, e153_189, e153_192, e153_193, e153_196, e153_199, e153_200, e153_203, e153_204, e153_206, e153_207, e153_208i, e153_208r, e153_209, e153_212, e153_213, e153_214, e153_217, Bool.false_eq_true, Bool.true_eq_false, gfK, pfK, lnK, isC, alK_n, asK_n, List.getElem?_cons_zero, List.getElem?_cons_succ, List.set_cons_zero, List.set_cons_succ, List.length_cons, List.length_nil, ↓reduceIte, if_true, if_false, eq_self, and_true, true_and, and_self, Option.bind_some, Option.bind_none, Option.toList_some, Option.toList_none, List.cons_append, List.nil_append, mset_at, mset_ne, mset_2, mset_mset, Nat.reduceLT, Nat.reduceAdd, G_RD, G_RD62, g60, y1, y_well, nz1, lm_8, nI_addN, lm_5, la_640, k8, hx0', show (0 : Int32) ≤ 0 from by decide, y2, y3]
            rcases hL with g | g
            · exact Or.inl (ROk_next hec (by omega) hF hem g)
            · exact Or.inr (RNo_next hec hF hem g)
          · have h3' : ¬ nI (tS t n p3) = 1 := tS_ne (k := 1) h3 (by decide)
            refine Or.inr ⟨A3, p3, ?_, c3, hp3, hF, fun b1 u1 v1 τ1 B tk va hB hM hX => ?_⟩
            · simp (disch := first | omega | assumption | exact Nat.le_of_ble_eq_true rfl) only [m24, e24_0, e24_1, e24_4, e24_6, e24_9, e24_10b0, e24_10b1, e24_11, e24_12, e24_15, e24_18i, e24_18n, e24_18r, e24_19, e24_20, e24_23, e24_26, e24_27, e24_30, e24_33i, e24_33n, e24_33r, e24_34, e24_35, e24_38, e24_41, e24_42, e24_45, e24_46, e24_47, e24_48, e24_51, e24_54, e24_55b0, e24_55b1, e24_56, e24_57, e24_60, e24_63, e24_64, e24_67, e24_69, e24_72, e24_75, e24_76, e24_79, e24_82, e24_83, e24_86, e24_87b0, e24_87b1, e24_88, e24_89i, e24_89n, e24_89r, e24_93, e24_94, e24_97, e24_98, e24_101, e24_104, e24_105, e24_108, e24_109, e24_110, e24_111, e24_112, e24_115, e24_118, e24_121, e24_124, e24_125b0, e24_125b1, e24_126, e24_127, e24_130, e24_133i, e24_133n, e24_133r, e24_136, e24_139, e24_140i, e24_140r, e24_141, e24_144, e24_145, e24_146, e24_149, e24_150, e24_153, e24_155, e24_158b0, e24_158b1, Bool.false_eq_true, Bool.true_eq_false, gfK, pfK, lnK, isC, alK_n, asK_n, List.getElem?_cons_zero, List.getElem?_cons_succ, List.set_cons_zero, List.set_cons_succ, List.length_cons, List.length_nil, ↓reduceIte, if_true, if_false, eq_self, and_true, true_and, and_self, Option.bind_some, Option.bind_none, Option.toList_some, Option.toList_none, List.cons_append, List.nil_append, mset_at, mset_ne, mset_2, mset_mset, Nat.reduceLT, Nat.reduceAdd, G_3, G_4, G_W0 hw, c2, g60', hva, s1, hva1, hso1, hli, hl, le0_nI, s2, s3, nz1, hso3, h3']
            · obtain ⟨t1, w1, y1, m1⟩ := hY b1 u1 v1 τ1 B tk va hB hM
              have e2 := (tk_2 m1).symm ▸ h2
              have ev1 := m1.2.1 (Or.inr h2)
              rw [← hdd] at ev1
              obtain ⟨t2, w2, y2, m2⟩ := hY2 b1 u1 v1 τ1 B t1 w1 hB
              obtain ⟨t3, w3, y3, m3⟩ := hY3 b1 u1 v1 τ1 B t2 w2 hB m2
              have hx0 := (hX.1 (s * 8 + d) (by omega)).1
              rw [hl] at hx0
              have hx0' : B 62 (640 + 5 * (s * 8 + d)) = 0 := hx0
              rw [e2, ev1] at y1 y2
              have hz := fun l1 l2 => yway_94f (b := b1) (u := u1) (v := v1) (τ := τ1) (A := B) (n0 := nI (ed t n p3)) (dw := nI nw) (db := nI nb) (l1 := l1) (l2 := l2) hp3 h9 m3 h3
              refine ⟨B, nI (ed t n p3), t3, nI p3, w3, nI nw, nI nb, ?_, FM_rf⟩
              · unfold YS
                simp (disch := first | omega | assumption | exact Nat.le_of_ble_eq_true rfl) only [m153, e153_0, e153_1, e153_4, e153_6, e153_9, e153_10, e153_13, e153_14, e153_15, e153_18i, e153_18n, e153_18r, e153_19, e153_22, e153_23, e153_25, e153_26, e153_27, e153_28, e153_31, e153_32, e153_35, e153_36, e153_39, e153_42, e153_43, e153_44, e153_45, e153_46i, e153_46n, e153_46r, e153_47, e153_48, e153_51, e153_54, e153_55, e153_58, e153_59, e153_62, e153_63, e153_66, e153_67, e153_68, e153_71, e153_72, e153_75, e153_76, e153_77, e153_80, e153_81, e153_83, e153_86, e153_87i, e153_87n, e153_87r, e153_88, e153_89i, e153_89n, e153_89r, e153_91, e153_92i, e153_92n, e153_92r, e153_96, e153_99, e153_100, e153_103, e153_106, e153_107, e153_110, e153_111, e153_114, e153_116, e153_117, e153_120, e153_121, e153_122, e153_125, e153_126, e153_127, e153_128, e153_129, e153_132, e153_133, e153_136, e153_139, e153_140, e153_141, e153_142, e153_145, e153_146, e153_147i, e153_147n, e153_147r, e153_148i, e153_148n, e153_148r, e153_151, e153_152, e153_155, e153_156, e153_158, e153_159, e153_160, e153_163, e153_164, e153_165, e153_168, e153_169, e153_172, e153_173, e153_176, e153_177, e153_180, e153_181i, e153_181n, e153_181r, e153_183, e153_186, e153_187, e153_189, e153_192, e153_193, e153_196, e153_199, e153_200, e153_203, e153_204, e153_206, e153_207, e153_208i, e153_208r, e153_209, e153_212, e153_213, e153_214, e153_217, Bool.false_eq_true, Bool.true_eq_false, gfK, pfK, lnK, isC, alK_n, asK_n, List.getElem?_cons_zero, List.getElem?_cons_succ, List.set_cons_zero, List.set_cons_succ, List.length_cons, List.length_nil, ↓reduceIte, if_true, if_false, eq_self, and_true, true_and, and_self, Option.bind_some, Option.bind_none, Option.toList_some, Option.toList_none, List.cons_append, List.nil_append, mset_at, mset_ne, mset_2, mset_mset, Nat.reduceLT, Nat.reduceAdd, G_RD, G_RD62, g60, y1, y_well, nz1, lm_8, nI_addN, lm_5, la_640, k8, hx0', show (0 : Int32) ≤ 0 from by decide, y2, y3, hz]
        · have h7' := x_pass_f (b := b) (u := u) (v := v) (τ := τ) (x := 7) c2' (tS_ne h7 (by decide))
          refine Or.inr ⟨A2, p2, ?_, c2', hp2, FC_tr (FC_4 f1) (FC_4 f2), fun b1 u1 v1 τ1 B tk va hB hM hX => ?_⟩
          · simp (disch := first | omega | assumption | exact Nat.le_of_ble_eq_true rfl) only [m24, e24_0, e24_1, e24_4, e24_6, e24_9, e24_10b0, e24_10b1, e24_11, e24_12, e24_15, e24_18i, e24_18n, e24_18r, e24_19, e24_20, e24_23, e24_26, e24_27, e24_30, e24_33i, e24_33n, e24_33r, e24_34, e24_35, e24_38, e24_41, e24_42, e24_45, e24_46, e24_47, e24_48, e24_51, e24_54, e24_55b0, e24_55b1, e24_56, e24_57, e24_60, e24_63, e24_64, e24_67, e24_69, e24_72, e24_75, e24_76, e24_79, e24_82, e24_83, e24_86, e24_87b0, e24_87b1, e24_88, e24_89i, e24_89n, e24_89r, e24_93, e24_94, e24_97, e24_98, e24_101, e24_104, e24_105, e24_108, e24_109, e24_110, e24_111, e24_112, e24_115, e24_118, e24_121, e24_124, e24_125b0, e24_125b1, e24_126, e24_127, e24_130, e24_133i, e24_133n, e24_133r, e24_136, e24_139, e24_140i, e24_140r, e24_141, e24_144, e24_145, e24_146, e24_149, e24_150, e24_153, e24_155, e24_158b0, e24_158b1, Bool.false_eq_true, Bool.true_eq_false, gfK, pfK, lnK, isC, alK_n, asK_n, List.getElem?_cons_zero, List.getElem?_cons_succ, List.set_cons_zero, List.set_cons_succ, List.length_cons, List.length_nil, ↓reduceIte, if_true, if_false, eq_self, and_true, true_and, and_self, Option.bind_some, Option.bind_none, Option.toList_some, Option.toList_none, List.cons_append, List.nil_append, mset_at, mset_ne, mset_2, mset_mset, Nat.reduceLT, Nat.reduceAdd, G_3, G_4, G_W0 hw, c2, g60', hva, s1, hva1, hso1, hli, hl, le0_nI, s2, h7', nz1]
          · obtain ⟨t1, w1, y1, m1⟩ := hY b1 u1 v1 τ1 B tk va hB hM
            have e2 := (tk_2 m1).symm ▸ h2
            have ev1 := m1.2.1 (Or.inr h2)
            rw [← hdd] at ev1
            obtain ⟨t2, w2, y2, m2⟩ := hY2 b1 u1 v1 τ1 B t1 w1 hB
            have y3 := y_gtF (b := b1) (u := u1) (v := v1) (τ := τ1) (A := B) (n0 := nI (ed t n p2)) (pl := nI p2) (dw := nI nw) (db := nI nb) m2 h7
            have hx0 := (hX.1 (s * 8 + d) (by omega)).1
            rw [hl] at hx0
            have hx0' : B 62 (640 + 5 * (s * 8 + d)) = 0 := hx0
            rw [e2, ev1] at y1 y2
            have hz := fun l1 l2 => yway_94x (b := b1) (u := u1) (v := v1) (τ := τ1) (A := B) (n0 := nI (ed t n p2)) (tk := t2) (pl := nI p2) (va := w2) (dw := nI nw) (db := nI nb) (l1 := l1) (l2 := l2) (show p2 < 2147483648 by omega)
            refine ⟨B, nI (ed t n p2), t2, nI p2, w2, nI nw, nI nb, ?_, FM_rf⟩
            unfold YS
            simp (disch := first | omega | assumption | exact Nat.le_of_ble_eq_true rfl) only [m153, e153_0, e153_1, e153_4, e153_6, e153_9, e153_10, e153_13, e153_14, e153_15, e153_18i, e153_18n, e153_18r, e153_19, e153_22, e153_23, e153_25, e153_26, e153_27, e153_28, e153_31, e153_32, e153_35, e153_36, e153_39, e153_42, e153_43, e153_44, e153_45, e153_46i, e153_46n, e153_46r, e153_47, e153_48, e153_51, e153_54, e153_55, e153_58, e153_59, e153_62, e153_63, e153_66, e153_67, e153_68, e153_71, e153_72, e153_75, e153_76, e153_77, e153_80, e153_81, e153_83, e153_86, e153_87i, e153_87n, e153_87r, e153_88, e153_89i, e153_89n, e153_89r, e153_91, e153_92i, e153_92n, e153_92r, e153_96, e153_99, e153_100, e153_103, e153_106, e153_107, e153_110, e153_111, e153_114, e153_116, e153_117, e153_120, e153_121, e153_122, e153_125, e153_126, e153_127, e153_128, e153_129, e153_132, e153_133, e153_136, e153_139, e153_140, e153_141, e153_142, e153_145, e153_146, e153_147i, e153_147n, e153_147r, e153_148i, e153_148n, e153_148r, e153_151, e153_152, e153_155, e153_156, e153_158, e153_159, e153_160, e153_163, e153_164, e153_165, e153_168, e153_169, e153_172, e153_173, e153_176, e153_177, e153_180, e153_181i, e153_181n, e153_181r, e153_183, e153_186, e153_187, e153_189, e153_192, e153_193, e153_196, e153_199, e153_200, e153_203, e153_204, e153_206, e153_207, e153_208i, e153_208r, e153_209, e153_212, e153_213, e153_214, e153_217, Bool.false_eq_true, Bool.true_eq_false, gfK, pfK, lnK, isC, alK_n, asK_n, List.getElem?_cons_zero, List.getElem?_cons_succ, List.set_cons_zero, List.set_cons_succ, List.length_cons, List.length_nil, ↓reduceIte, if_true, if_false, eq_self, and_true, true_and, and_self, Option.bind_some, Option.bind_none, Option.toList_some, Option.toList_none, List.cons_append, List.nil_append, mset_at, mset_ne, mset_2, mset_mset, Nat.reduceLT, Nat.reduceAdd, G_RD, G_RD62, g60, y1, y_well, nz1, lm_8, nI_addN, lm_5, la_640, k8, hx0', show (0 : Int32) ≤ 0 from by decide, y2, y3, hz]
      · refine Or.inr ⟨A1, p1, ?_, c1, hp1, FC_4 f1, fun b1 u1 v1 τ1 B tk va hB hM hX => ?_⟩
        · simp (disch := first | omega | assumption | exact Nat.le_of_ble_eq_true rfl) only [m24, e24_0, e24_1, e24_4, e24_6, e24_9, e24_10b0, e24_10b1, e24_11, e24_12, e24_15, e24_18i, e24_18n, e24_18r, e24_19, e24_20, e24_23, e24_26, e24_27, e24_30, e24_33i, e24_33n, e24_33r, e24_34, e24_35, e24_38, e24_41, e24_42, e24_45, e24_46, e24_47, e24_48, e24_51, e24_54, e24_55b0, e24_55b1, e24_56, e24_57, e24_60, e24_63, e24_64, e24_67, e24_69, e24_72, e24_75, e24_76, e24_79, e24_82, e24_83, e24_86, e24_87b0, e24_87b1, e24_88, e24_89i, e24_89n, e24_89r, e24_93, e24_94, e24_97, e24_98, e24_101, e24_104, e24_105, e24_108, e24_109, e24_110, e24_111, e24_112, e24_115, e24_118, e24_121, e24_124, e24_125b0, e24_125b1, e24_126, e24_127, e24_130, e24_133i, e24_133n, e24_133r, e24_136, e24_139, e24_140i, e24_140r, e24_141, e24_144, e24_145, e24_146, e24_149, e24_150, e24_153, e24_155, e24_158b0, e24_158b1, Bool.false_eq_true, Bool.true_eq_false, gfK, pfK, lnK, isC, alK_n, asK_n, List.getElem?_cons_zero, List.getElem?_cons_succ, List.set_cons_zero, List.set_cons_succ, List.length_cons, List.length_nil, ↓reduceIte, if_true, if_false, eq_self, and_true, true_and, and_self, Option.bind_some, Option.bind_none, Option.toList_some, Option.toList_none, List.cons_append, List.nil_append, mset_at, mset_ne, mset_2, mset_mset, Nat.reduceLT, Nat.reduceAdd, G_3, G_4, G_W0 hw, c2, g60', hva, s1, hva1, hso1, hli, hl, le0_nI]
        · obtain ⟨t1, w1, y1, m1⟩ := hY b1 u1 v1 τ1 B tk va hB hM
          have e2 := (tk_2 m1).symm ▸ h2
          have ev1 := m1.2.1 (Or.inr h2)
          rw [← hdd] at ev1
          have hx0 := (hX.1 (s * 8 + d) (by omega)).1
          have k8 : 8 * s + d = s * 8 + d := by omega
          rw [e2, ev1] at y1
          refine ⟨B, nI (ed t n p1), 2, nI p1, nI d, nI nw, nI nb, ?_, FM_rf⟩
          unfold YS
          simp (disch := first | omega | assumption | exact Nat.le_of_ble_eq_true rfl) only [m153, e153_0, e153_1, e153_4, e153_6, e153_9, e153_10, e153_13, e153_14, e153_15, e153_18i, e153_18n, e153_18r, e153_19, e153_22, e153_23, e153_25, e153_26, e153_27, e153_28, e153_31, e153_32, e153_35, e153_36, e153_39, e153_42, e153_43, e153_44, e153_45, e153_46i, e153_46n, e153_46r, e153_47, e153_48, e153_51, e153_54, e153_55, e153_58, e153_59, e153_62, e153_63, e153_66, e153_67, e153_68, e153_71, e153_72, e153_75, e153_76, e153_77, e153_80, e153_81, e153_83, e153_86, e153_87i, e153_87n, e153_87r, e153_88, e153_89i, e153_89n, e153_89r, e153_91, e153_92i, e153_92n, e153_92r, e153_96, e153_99, e153_100, e153_103, e153_106, e153_107, e153_110, e153_111, e153_114, e153_116, e153_117, e153_120, e153_121, e153_122, e153_125, e153_126, e153_127, e153_128, e153_129, e153_132, e153_133, e153_136, e153_139, e153_140, e153_141, e153_142, e153_145, e153_146, e153_147i, e153_147n, e153_147r, e153_148i, e153_148n, e153_148r, e153_151, e153_152, e153_155, e153_156, e153_158, e153_159, e153_160, e153_163, e153_164, e153_165, e153_168, e153_169, e153_172, e153_173, e153_176, e153_177, e153_180, e153_181i, e153_181n, e153_181r, e153_183, e153_186, e153_187, e153_189, e153_192, e153_193, e153_196, e153_199, e153_200, e153_203, e153_204, e153_206, e153_207, e153_208i, e153_208r, e153_209, e153_212, e153_213, e153_214, e153_217, Bool.false_eq_true, Bool.true_eq_false, gfK, pfK, lnK, isC, alK_n, asK_n, List.getElem?_cons_zero, List.getElem?_cons_succ, List.set_cons_zero, List.set_cons_succ, List.length_cons, List.length_nil, ↓reduceIte, if_true, if_false, eq_self, and_true, true_and, and_self, Option.bind_some, Option.bind_none, Option.toList_some, Option.toList_none, List.cons_append, List.nil_append, mset_at, mset_ne, mset_2, mset_mset, Nat.reduceLT, Nat.reduceAdd, G_RD, G_RD62, g60, y1, y_well, nz1, lm_8, nI_addN, lm_5, la_640, k8, hx0, le0_nI, hl, y_fails]
    · have h2' : ¬ nI (tS t n p1) = 2 := tS_ne (k := 2) h2 (by decide)
      refine Or.inr ⟨A1, p1, ?_, c1, hp1, FC_4 f1, fun b1 u1 v1 τ1 B tk va hB hM hX => ?_⟩
      · simp (disch := first | omega | assumption | exact Nat.le_of_ble_eq_true rfl) only [m24, e24_0, e24_1, e24_4, e24_6, e24_9, e24_10b0, e24_10b1, e24_11, e24_12, e24_15, e24_18i, e24_18n, e24_18r, e24_19, e24_20, e24_23, e24_26, e24_27, e24_30, e24_33i, e24_33n, e24_33r, e24_34, e24_35, e24_38, e24_41, e24_42, e24_45, e24_46, e24_47, e24_48, e24_51, e24_54, e24_55b0, e24_55b1, e24_56, e24_57, e24_60, e24_63, e24_64, e24_67, e24_69, e24_72, e24_75, e24_76, e24_79, e24_82, e24_83, e24_86, e24_87b0, e24_87b1, e24_88, e24_89i, e24_89n, e24_89r, e24_93, e24_94, e24_97, e24_98, e24_101, e24_104, e24_105, e24_108, e24_109, e24_110, e24_111, e24_112, e24_115, e24_118, e24_121, e24_124, e24_125b0, e24_125b1, e24_126, e24_127, e24_130, e24_133i, e24_133n, e24_133r, e24_136, e24_139, e24_140i, e24_140r, e24_141, e24_144, e24_145, e24_146, e24_149, e24_150, e24_153, e24_155, e24_158b0, e24_158b1, Bool.false_eq_true, Bool.true_eq_false, gfK, pfK, lnK, isC, alK_n, asK_n, List.getElem?_cons_zero, List.getElem?_cons_succ, List.set_cons_zero, List.set_cons_succ, List.length_cons, List.length_nil, ↓reduceIte, if_true, if_false, eq_self, and_true, true_and, and_self, Option.bind_some, Option.bind_none, Option.toList_some, Option.toList_none, List.cons_append, List.nil_append, mset_at, mset_ne, mset_2, mset_mset, Nat.reduceLT, Nat.reduceAdd, G_3, G_4, G_W0 hw, c2, g60', hva, s1, hva1, hso1, h2']
      · obtain ⟨t1, w1, y1, m1⟩ := hY b1 u1 v1 τ1 B tk va hB hM
        have e2 := (tk_2 m1) ▸ h2
        refine ⟨B, nI (ed t n p1), t1, nI p1, w1, nI nw, nI nb, ?_, FM_rf⟩
        unfold YS
        simp (disch := first | omega | assumption | exact Nat.le_of_ble_eq_true rfl) only [m153, e153_0, e153_1, e153_4, e153_6, e153_9, e153_10, e153_13, e153_14, e153_15, e153_18i, e153_18n, e153_18r, e153_19, e153_22, e153_23, e153_25, e153_26, e153_27, e153_28, e153_31, e153_32, e153_35, e153_36, e153_39, e153_42, e153_43, e153_44, e153_45, e153_46i, e153_46n, e153_46r, e153_47, e153_48, e153_51, e153_54, e153_55, e153_58, e153_59, e153_62, e153_63, e153_66, e153_67, e153_68, e153_71, e153_72, e153_75, e153_76, e153_77, e153_80, e153_81, e153_83, e153_86, e153_87i, e153_87n, e153_87r, e153_88, e153_89i, e153_89n, e153_89r, e153_91, e153_92i, e153_92n, e153_92r, e153_96, e153_99, e153_100, e153_103, e153_106, e153_107, e153_110, e153_111, e153_114, e153_116, e153_117, e153_120, e153_121, e153_122, e153_125, e153_126, e153_127, e153_128, e153_129, e153_132, e153_133, e153_136, e153_139, e153_140, e153_141, e153_142, e153_145, e153_146, e153_147i, e153_147n, e153_147r, e153_148i, e153_148n, e153_148r, e153_151, e153_152, e153_155, e153_156, e153_158, e153_159, e153_160, e153_163, e153_164, e153_165, e153_168, e153_169, e153_172, e153_173, e153_176, e153_177, e153_180, e153_181i, e153_181n, e153_181r, e153_183, e153_186, e153_187, e153_189, e153_192, e153_193, e153_196, e153_199, e153_200, e153_203, e153_204, e153_206, e153_207, e153_208i, e153_208r, e153_209, e153_212, e153_213, e153_214, e153_217, Bool.false_eq_true, Bool.true_eq_false, gfK, pfK, lnK, isC, alK_n, asK_n, List.getElem?_cons_zero, List.getElem?_cons_succ, List.set_cons_zero, List.set_cons_succ, List.length_cons, List.length_nil, ↓reduceIte, if_true, if_false, eq_self, and_true, true_and, and_self, Option.bind_some, Option.bind_none, Option.toList_some, Option.toList_none, List.cons_append, List.nil_append, mset_at, mset_ne, mset_2, mset_mset, Nat.reduceLT, Nat.reduceAdd, G_RD, G_RD62, g60, y1, y_well, nz1, e2, y_fails]
  · have : nw = 60 := by omega
    subst this
    have g60' : ¬ nI 60 < 60 := by decide
    refine Or.inr ⟨A, p, ?_, h, hp, FC_rf, fun b1 u1 v1 τ1 B tk va hB hM hX => ?_⟩
    · simp (disch := first | omega | assumption | exact Nat.le_of_ble_eq_true rfl) only [m24, e24_0, e24_1, e24_4, e24_6, e24_9, e24_10b0, e24_10b1, e24_11, e24_12, e24_15, e24_18i, e24_18n, e24_18r, e24_19, e24_20, e24_23, e24_26, e24_27, e24_30, e24_33i, e24_33n, e24_33r, e24_34, e24_35, e24_38, e24_41, e24_42, e24_45, e24_46, e24_47, e24_48, e24_51, e24_54, e24_55b0, e24_55b1, e24_56, e24_57, e24_60, e24_63, e24_64, e24_67, e24_69, e24_72, e24_75, e24_76, e24_79, e24_82, e24_83, e24_86, e24_87b0, e24_87b1, e24_88, e24_89i, e24_89n, e24_89r, e24_93, e24_94, e24_97, e24_98, e24_101, e24_104, e24_105, e24_108, e24_109, e24_110, e24_111, e24_112, e24_115, e24_118, e24_121, e24_124, e24_125b0, e24_125b1, e24_126, e24_127, e24_130, e24_133i, e24_133n, e24_133r, e24_136, e24_139, e24_140i, e24_140r, e24_141, e24_144, e24_145, e24_146, e24_149, e24_150, e24_153, e24_155, e24_158b0, e24_158b1, Bool.false_eq_true, Bool.true_eq_false, gfK, pfK, lnK, isC, alK_n, asK_n, List.getElem?_cons_zero, List.getElem?_cons_succ, List.set_cons_zero, List.set_cons_succ, List.length_cons, List.length_nil, ↓reduceIte, if_true, if_false, eq_self, and_true, true_and, and_self, Option.bind_some, Option.bind_none, Option.toList_some, Option.toList_none, List.cons_append, List.nil_append, mset_at, mset_ne, mset_2, mset_mset, Nat.reduceLT, Nat.reduceAdd, G_3, G_W0 hw, c2, g60']
    · refine ⟨B, nI (ed t n p), tk, nI p, va, nI 60, nI nb, ?_, FM_rf⟩
      unfold YS
      simp (disch := first | omega | assumption | exact Nat.le_of_ble_eq_true rfl) only [m153, e153_0, e153_1, e153_4, e153_6, e153_9, e153_10, e153_13, e153_14, e153_15, e153_18i, e153_18n, e153_18r, e153_19, e153_22, e153_23, e153_25, e153_26, e153_27, e153_28, e153_31, e153_32, e153_35, e153_36, e153_39, e153_42, e153_43, e153_44, e153_45, e153_46i, e153_46n, e153_46r, e153_47, e153_48, e153_51, e153_54, e153_55, e153_58, e153_59, e153_62, e153_63, e153_66, e153_67, e153_68, e153_71, e153_72, e153_75, e153_76, e153_77, e153_80, e153_81, e153_83, e153_86, e153_87i, e153_87n, e153_87r, e153_88, e153_89i, e153_89n, e153_89r, e153_91, e153_92i, e153_92n, e153_92r, e153_96, e153_99, e153_100, e153_103, e153_106, e153_107, e153_110, e153_111, e153_114, e153_116, e153_117, e153_120, e153_121, e153_122, e153_125, e153_126, e153_127, e153_128, e153_129, e153_132, e153_133, e153_136, e153_139, e153_140, e153_141, e153_142, e153_145, e153_146, e153_147i, e153_147n, e153_147r, e153_148i, e153_148n, e153_148r, e153_151, e153_152, e153_155, e153_156, e153_158, e153_159, e153_160, e153_163, e153_164, e153_165, e153_168, e153_169, e153_172, e153_173, e153_176, e153_177, e153_180, e153_181i, e153_181n, e153_181r, e153_183, e153_186, e153_187, e153_189, e153_192, e153_193, e153_196, e153_199, e153_200, e153_203, e153_204, e153_206, e153_207, e153_208i, e153_208r, e153_209, e153_212, e153_213, e153_214, e153_217, Bool.false_eq_true, Bool.true_eq_false, gfK, pfK, lnK, isC, alK_n, asK_n, List.getElem?_cons_zero, List.getElem?_cons_succ, List.set_cons_zero, List.set_cons_succ, List.length_cons, List.length_nil, ↓reduceIte, if_true, if_false, eq_self, and_true, true_and, and_self, Option.bind_some, Option.bind_none, Option.toList_some, Option.toList_none, List.cons_append, List.nil_append, mset_at, mset_ne, mset_2, mset_mset, Nat.reduceLT, Nat.reduceAdd, G_RD, eq_true (show nI 60 = 60 from rfl), y_fails]
end WAY3
