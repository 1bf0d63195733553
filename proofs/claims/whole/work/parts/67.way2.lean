/-! READING A WAY: its lots; the whole of it. -/
section WAY2
variable {b w : Nat} {u v : Int64} {A B : Nat → Nat → Int32} {τ : Nat × Nat × Nat × (Nat → Int32)} {lc : Nat → Nat} {lt : Nat → Nat → Nat} {fr to : Nat → Nat} {st : Nat → Int32} {nw nb n i j p e c k q s d : Nat} {t : Nat → Nat} {x y z S n0 tk pl va fa dw db : Int32} {σ : mS} {l1 l2 l3 l4 l5 : Option Value}
theorem tS_ne (h : ¬ tS t n p = k) (hk : k < 2147483648) : ¬ nI (tS t n p) = nI k := fun q => h (nI_inj (by have := tS_le (t := t) (n := n) (p := p); omega) hk q)
theorem MW4_add (hk : k < 128) (hl : lc k = i) (hi : i < 4) (hW : WF lc lt) (h : MW4 B lc lt k i nb fr to st) : MW4 (up B 62 (upd (B 62) (640 + 5 * k + (i + 1)) (nI q))) (set1 lc k (lc k + 1)) (set1 lt k (set1 (lt k) (lc k) q)) k (i + 1) nb fr to st := by
  obtain ⟨⟨d1, d2, d3⟩, d4⟩ := h
  refine ⟨⟨fun j hj => ?_, fun j hj => ?_, ?_⟩, fun j hj => ?_⟩
  · rw [up_at]
    have h5 := d1 j hj
    by_cases e : j = k
    · subst e
      rw [set1_at] at h5 ⊢
      rw [upd_ne (by omega)]
      exact ⟨h5.1, fun m hm => absurd hm (Nat.not_lt_zero m)⟩
    · have h6 := (hW j hj).1
      rw [set1_ne e] at h5
      rw [set1_ne e, set1_ne e, set1_ne e, upd_ne (by omega)]
      refine ⟨h5.1, fun m hm => ?_⟩
      rw [upd_ne (by omega)]
      exact h5.2 m hm
  · rw [up_ne (by omega)]
    exact d2 j hj
  · rw [up_ne (by omega)]
    exact d3
  · rw [up_at, set1_at, hl]
    by_cases e : j = i
    · rw [e, show 640 + 5 * k + 1 + i = 640 + 5 * k + (i + 1) by omega, upd_at, set1_at]
    · rw [upd_ne (by omega), set1_ne e]
      exact d4 j (by omega)
theorem way_loop (hw : w = 8 ∨ w = 19) (hs : s < 16) (hd : d < 8) (hn : nw < 60) : ∀ (r i p : Nat) (A : Nat → Nat → Int32) (lc : Nat → Nat) (lt : Nat → Nat → Nat), i + r = 4 → TX A n t → p ≤ n → CAt A n t p → CD A w lc lt nw nb fr to st → DF lc lt nw nb fr to st → lc (s * 8 + d) = i → ROk b u v τ w n t A p nw nb (ev 24 91 [some (.ref 3), some (.ref w), some (.int (nI s)), some (.int (nI d)), some (.int (nI i))] [] (G b u v A τ)) (fun B => MW4 B lc lt (s * 8 + d) i nb fr to st) (fun σ => ev 153 94 [some (.ref 60), l1, some (.int (nI (640 + 5 * (s * 8 + d)))), some (.int (setI (lt (s * 8 + d)) i)), some (.int (nI i)), some (.int (bI (decide (tS t n p = 1))))] [] σ) ∨ RNo b u v τ w n t A p nw nb (ev 24 91 [some (.ref 3), some (.ref w), some (.int (nI s)), some (.int (nI d)), some (.int (nI i))] [] (G b u v A τ)) (fun B => MW4 B lc lt (s * 8 + d) i nb fr to st) (fun σ => ev 153 94 [some (.ref 60), l1, some (.int (nI (640 + 5 * (s * 8 + d)))), some (.int (setI (lt (s * 8 + d)) i)), some (.int (nI i)), some (.int (bI (decide (tS t n p = 1))))] [] σ)
  | r, i, p, A, lc, lt, hr, hT, hp, h, hC, hD, hl => by
    have h9 := hT.1
    have hk : s * 8 + d < 128 := by omega
    by_cases h1 : tS t n p = 1
    · rw [decide_eq_true h1, bI_t]
      have hq := tV_1 h1
      obtain ⟨q, hqd⟩ : ∃ q, q = tV t n p := ⟨_, rfl⟩
      have hso := x_sort (b := b) (u := u) (v := v) (τ := τ) h
      have hva := x_value (b := b) (u := u) (v := v) (τ := τ) h
      rw [h1, show nI 1 = 1 from rfl] at hso
      rw [cV_tV (Or.inl h1), ← hqd] at hva
      rw [← hqd] at hq
      match r, hr with
      | 0, hr =>
        have hi4 : i = 4 := by omega
        subst hi4
        obtain ⟨A', k1, k2, k3⟩ := way_no (b := b) (u := u) (v := v) (τ := τ) (l2 := some (.int (nI s))) (l3 := some (.int (nI d))) (l4 := some (.int (nI 4))) hw h (by omega) hC
        refine Or.inr ⟨A', p, ?_, k2, hp, k3, fun b1 u1 v1 τ1 B tk va hB hM hX => ⟨B, nI (ed t n p), tk, nI p, va, nI nw, nI nb, ?_, FM_rf⟩⟩
        · rw [e24_91]
          simp (disch := first | omega | assumption | exact Nat.le_of_ble_eq_true rfl) only [m24, e24_93, e24_94, Bool.false_eq_true, Bool.true_eq_false, gfK, pfK, lnK, isC, alK_n, asK_n, List.getElem?_cons_zero, List.getElem?_cons_succ, List.set_cons_zero, List.set_cons_succ, List.length_cons, List.length_nil, ↓reduceIte, if_true, if_false, eq_self, and_true, true_and, and_self, Option.bind_some, Option.bind_none, Option.toList_some, Option.toList_none, List.cons_append, List.nil_append, mset_at, mset_ne, mset_2, mset_mset, Nat.reduceLT, Nat.reduceAdd, show (4 : Int32) ≤ nI 4 from by decide, k1]
        · have h3 := (tk_3 hM).symm ▸ h1
          have hx := fun l5 => yway_x (b := b1) (u := u1) (v := v1) (τ := τ1) (A := B) (n0 := nI (ed t n p)) (tk := tk) (pl := nI p) (va := va) (dw := nI nw) (db := nI nb) (l1 := l1) (l2 := some (.int (nI (640 + 5 * (s * 8 + d))))) (l3 := some (.int (setI (lt (s * 8 + d)) 4))) (l4 := some (.int (nI 4))) (l5 := l5) (show p < 2147483648 by omega)
          unfold YS
          rw [show (fun σ => ev 153 94 [some (.ref 60), l1, some (.int (nI (640 + 5 * (s * 8 + d)))), some (.int (setI (lt (s * 8 + d)) 4)), some (.int (nI 4)), some (.int 1)] [] σ) = fun σ => _ from rfl]
          simp only []
          rw [e153_94]
          simp (disch := first | omega | assumption | exact Nat.le_of_ble_eq_true rfl) only [m153, e153_96, e153_99, e153_100, e153_103, e153_106, e153_107, e153_110, e153_111, e153_114, e153_116, e153_117, e153_120, e153_121, e153_122, e153_125, e153_126, e153_127, e153_128, e153_129, e153_132, e153_133, e153_136, e153_139, e153_140, e153_141, e153_142, e153_145, e153_146, e153_147i, e153_147n, e153_147r, e153_148i, e153_148n, e153_148r, e153_151, e153_152, e153_155, e153_156, e153_158, e153_159, e153_160, e153_163, e153_164, e153_165, e153_168, e153_169, e153_172, e153_173, e153_176, e153_177, e153_180, e153_181i, e153_181n, e153_181r, e153_183, Bool.false_eq_true, Bool.true_eq_false, gfK, pfK, lnK, isC, alK_n, asK_n, List.getElem?_cons_zero, List.getElem?_cons_succ, List.set_cons_zero, List.set_cons_succ, List.length_cons, List.length_nil, ↓reduceIte, if_true, if_false, eq_self, and_true, true_and, and_self, Option.bind_some, Option.bind_none, Option.toList_some, Option.toList_none, List.cons_append, List.nil_append, mset_at, mset_ne, mset_2, mset_mset, Nat.reduceLT, Nat.reduceAdd, nz1, G_RD, y_well, eq_true h3, show nI 4 = 4 from rfl, y_fails]
          rw [e153_94]
          simp (disch := first | omega | assumption | exact Nat.le_of_ble_eq_true rfl) only [m153, e153_96, e153_99, e153_100, e153_103, e153_106, e153_107, e153_110, e153_111, e153_114, e153_116, e153_117, e153_120, e153_121, e153_122, e153_125, e153_126, e153_127, e153_128, e153_129, e153_132, e153_133, e153_136, e153_139, e153_140, e153_141, e153_142, e153_145, e153_146, e153_147i, e153_147n, e153_147r, e153_148i, e153_148n, e153_148r, e153_151, e153_152, e153_155, e153_156, e153_158, e153_159, e153_160, e153_163, e153_164, e153_165, e153_168, e153_169, e153_172, e153_173, e153_176, e153_177, e153_180, e153_181i, e153_181n, e153_181r, e153_183, Bool.false_eq_true, Bool.true_eq_false, gfK, pfK, lnK, isC, alK_n, asK_n, List.getElem?_cons_zero, List.getElem?_cons_succ, List.set_cons_zero, List.set_cons_succ, List.length_cons, List.length_nil, ↓reduceIte, if_true, if_false, eq_self, and_true, true_and, and_self, Option.bind_some, Option.bind_none, Option.toList_some, Option.toList_none, List.cons_append, List.nil_append, mset_at, mset_ne, mset_2, mset_mset, Nat.reduceLT, Nat.reduceAdd, nz1, G_RD, y_ill (show p < 2147483648 by omega), ← show nI 4 = 4 from rfl, hx]
      | r + 1, hr =>
        have h4 : ¬ 4 ≤ i := by omega
        have hi4 : ¬ nI i = 4 := fun g => by have := nI_inj (i := i) (j := 4) (by omega) (by decide) g; omega
        cases hb : bi (setI (lt (s * 8 + d)) i) q with
        | true =>
          have ha := x_addLotF (b := b) (u := u) (v := v) (τ := τ) (q := q) hw hC.1 hs hd hq (by omega) (by rw [hl]; exact hb)
          refine Or.inr ⟨A, p, ?_, h, hp, FC_rf, fun b1 u1 v1 τ1 B tk va hB hM hX => ⟨B, nI (ed t n p), tk, nI p, va, nI nw, nI nb, ?_, FM_rf⟩⟩
          · rw [e24_91]
            simp (disch := first | omega | assumption | exact Nat.le_of_ble_eq_true rfl) only [m24, e24_93, e24_94, e24_97, e24_98, e24_101, e24_104, e24_105, e24_108, e24_109, e24_110, e24_111, e24_112, e24_115, e24_118, e24_121, e24_124, e24_125b0, e24_125b1, Bool.false_eq_true, Bool.true_eq_false, gfK, pfK, lnK, isC, alK_n, asK_n, List.getElem?_cons_zero, List.getElem?_cons_succ, List.set_cons_zero, List.set_cons_succ, List.length_cons, List.length_nil, ↓reduceIte, if_true, if_false, eq_self, and_true, true_and, and_self, Option.bind_some, Option.bind_none, Option.toList_some, Option.toList_none, List.cons_append, List.nil_append, mset_at, mset_ne, mset_2, mset_mset, Nat.reduceLT, Nat.reduceAdd, le_4, h4, G_3, G_4, G_W0 hw, hso, hva, ha]
          · have h3 := (tk_3 hM).symm ▸ h1
            have hv := hM.2.1 (Or.inl h1)
            rw [← hqd] at hv
            have hx := fun l5 => yway_x (b := b1) (u := u1) (v := v1) (τ := τ1) (A := B) (n0 := nI (ed t n p)) (tk := tk) (pl := nI p) (va := nI q) (dw := nI nw) (db := nI nb) (l1 := l1) (l2 := some (.int (nI (640 + 5 * (s * 8 + d))))) (l3 := some (.int (setI (lt (s * 8 + d)) i))) (l4 := some (.int (nI i))) (l5 := l5) (show p < 2147483648 by omega)
            unfold YS
            rw [hv]
            simp only []
            rw [e153_94]
            simp (disch := first | omega | assumption | exact Nat.le_of_ble_eq_true rfl) only [m153, e153_96, e153_99, e153_100, e153_103, e153_106, e153_107, e153_110, e153_111, e153_114, e153_116, e153_117, e153_120, e153_121, e153_122, e153_125, e153_126, e153_127, e153_128, e153_129, e153_132, e153_133, e153_136, e153_139, e153_140, e153_141, e153_142, e153_145, e153_146, e153_147i, e153_147n, e153_147r, e153_148i, e153_148n, e153_148r, e153_151, e153_152, e153_155, e153_156, e153_158, e153_159, e153_160, e153_163, e153_164, e153_165, e153_168, e153_169, e153_172, e153_173, e153_176, e153_177, e153_180, e153_181i, e153_181n, e153_181r, e153_183, Bool.false_eq_true, Bool.true_eq_false, gfK, pfK, lnK, isC, alK_n, asK_n, List.getElem?_cons_zero, List.getElem?_cons_succ, List.set_cons_zero, List.set_cons_succ, List.length_cons, List.length_nil, ↓reduceIte, if_true, if_false, eq_self, and_true, true_and, and_self, Option.bind_some, Option.bind_none, Option.toList_some, Option.toList_none, List.cons_append, List.nil_append, mset_at, mset_ne, mset_2, mset_mset, Nat.reduceLT, Nat.reduceAdd, nz1, G_RD, y_well, eq_true h3, hi4, shr_1, hb, y_fails]
            rw [e153_94]
            simp (disch := first | omega | assumption | exact Nat.le_of_ble_eq_true rfl) only [m153, e153_96, e153_99, e153_100, e153_103, e153_106, e153_107, e153_110, e153_111, e153_114, e153_116, e153_117, e153_120, e153_121, e153_122, e153_125, e153_126, e153_127, e153_128, e153_129, e153_132, e153_133, e153_136, e153_139, e153_140, e153_141, e153_142, e153_145, e153_146, e153_147i, e153_147n, e153_147r, e153_148i, e153_148n, e153_148r, e153_151, e153_152, e153_155, e153_156, e153_158, e153_159, e153_160, e153_163, e153_164, e153_165, e153_168, e153_169, e153_172, e153_173, e153_176, e153_177, e153_180, e153_181i, e153_181n, e153_181r, e153_183, Bool.false_eq_true, Bool.true_eq_false, gfK, pfK, lnK, isC, alK_n, asK_n, List.getElem?_cons_zero, List.getElem?_cons_succ, List.set_cons_zero, List.set_cons_succ, List.length_cons, List.length_nil, ↓reduceIte, if_true, if_false, eq_self, and_true, true_and, and_self, Option.bind_some, Option.bind_none, Option.toList_some, Option.toList_none, List.cons_append, List.nil_append, mset_at, mset_ne, mset_2, mset_mset, Nat.reduceLT, Nat.reduceAdd, nz1, G_RD, y_ill (show p < 2147483648 by omega), hx]
        | false =>
          have ha := x_addLot (b := b) (u := u) (v := v) (τ := τ) (q := q) hw hC.1 hs hd hq (by omega) (by rw [hl]; exact hb)
          have hC1 := CD_LA (q := q) hw hD.1 hk (by omega) hC
          have h5 : CAt (LA A w (s * 8 + d) (lc (s * 8 + d)) (setI (lt (s * 8 + d)) (lc (s * 8 + d))) q) n t p := CAt_of (fun j a c => LA_ne (by omega)) h
          obtain ⟨A1, k1, k2, k3⟩ := x_step (b := b) (u := u) (v := v) (τ := τ) h5
          have hF : FC w A A1 := FC_tr (LA_FC hw) (FC_4 k3)
          have hC2 := CD_of (A' := A1) (fun k a c => k3 k (by omega)) hC1
          have hl' : set1 lc (s * 8 + d) (lc (s * 8 + d) + 1) (s * 8 + d) = i + 1 := by rw [set1_at, hl]
          have hpn : p < n := by
            by_cases g : p = n
            · rw [g, tS_n] at h1
              omega
            · omega
          have ih := way_loop hw hs hd hn r (i + 1) (nx t n p) A1 _ _ (by omega) (TX_FC hw hF hT) (nx_le hp) k2 hC2 ⟨WF_set1 hD.1 (by omega) hq, hD.2⟩ hl'
          have hec : ev 24 91 [some (.ref 3), some (.ref w), some (.int (nI s)), some (.int (nI d)), some (.int (nI i))] [] (G b u v A τ) = ev 24 91 [some (.ref 3), some (.ref w), some (.int (nI s)), some (.int (nI d)), some (.int (nI (i + 1)))] [] (G b u v A1 τ) := by
            rw [e24_91]
            simp (disch := first | omega | assumption | exact Nat.le_of_ble_eq_true rfl) only [m24, e24_93, e24_94, e24_97, e24_98, e24_101, e24_104, e24_105, e24_108, e24_109, e24_110, e24_111, e24_112, e24_115, e24_118, e24_121, e24_124, e24_125b0, e24_125b1, e24_126, e24_127, e24_130, e24_133i, e24_133n, e24_133r, e24_136, Bool.false_eq_true, Bool.true_eq_false, gfK, pfK, lnK, isC, alK_n, asK_n, List.getElem?_cons_zero, List.getElem?_cons_succ, List.set_cons_zero, List.set_cons_succ, List.length_cons, List.length_nil, ↓reduceIte, if_true, if_false, eq_self, and_true, true_and, and_self, Option.bind_some, Option.bind_none, Option.toList_some, Option.toList_none, List.cons_append, List.nil_append, mset_at, mset_ne, mset_2, mset_mset, Nat.reduceLT, Nat.reduceAdd, le_4, h4, G_3, G_4, G_W0 hw, hso, hva, ha, nz1, k1, nI_succ']
          have hem : ∀ (b1 : Nat) (u1 v1 : Int64) (τ1 : Nat × Nat × Nat × (Nat → Int32)) (B : Nat → Nat → Int32) (tk va : Int32), TY B n t → MTk t n p tk va → MW4 B lc lt (s * 8 + d) i nb fr to st → ∃ B' tk' va', TY B' n t ∧ MTk t n (nx t n p) tk' va' ∧ MW4 B' (set1 lc (s * 8 + d) (lc (s * 8 + d) + 1)) (set1 lt (s * 8 + d) (set1 (lt (s * 8 + d)) (lc (s * 8 + d)) q)) (s * 8 + d) (i + 1) nb fr to st ∧ FM B B' ∧ ev 153 94 [some (.ref 60), l1, some (.int (nI (640 + 5 * (s * 8 + d)))), some (.int (setI (lt (s * 8 + d)) i)), some (.int (nI i)), some (.int 1)] [] (G b1 u1 v1 (YS B n t p tk va (-1) (nI nw) (nI nb)) τ1) = ev 153 94 [some (.ref 60), l1, some (.int (nI (640 + 5 * (s * 8 + d)))), some (.int (setI (set1 lt (s * 8 + d) (set1 (lt (s * 8 + d)) (lc (s * 8 + d)) q) (s * 8 + d)) (i + 1))), some (.int (nI (i + 1))), some (.int (bI (decide (tS t n (nx t n p) = 1))))] [] (G b1 u1 v1 (YS B' n t (nx t n p) tk' va' (-1) (nI nw) (nI nb)) τ1) := by
            intro b1 u1 v1 τ1 B tk va hB hM hX
            have hFM : FM B (up B 62 (upd (B 62) (640 + 5 * (s * 8 + d) + (i + 1)) (nI q))) := FM_62 (fun j hj => upd_ne (by omega))
            have hB1 := TY_FM hFM hB
            obtain ⟨tk', va', g1, g2⟩ := y_step (b := b1) (u := u1) (v := v1) (τ := τ1) (tk := tk) (va := nI q) (fa := -1) (dw := nI nw) (db := nI nb) hB1 hp
            refine ⟨_, tk', va', hB1, g2, MW4_add hk hl (by omega) hD.1 hX, hFM, ?_⟩
            have h3 := (tk_3 hM).symm ▸ h1
            have hv := hM.2.1 (Or.inl h1)
            rw [← hqd] at hv
            rw [hv, set1_at, hl, setI_set1]
            unfold YS at g1 ⊢
            rw [e153_94]
            by_cases g3 : tS t n (nx t n p) = 1
            · have g4 := (tk_3 g2).symm ▸ g3
              rw [decide_eq_true g3, bI_t]
              simp (disch := first | omega | assumption | exact Nat.le_of_ble_eq_true rfl) only [m153, e153_96, e153_99, e153_100, e153_103, e153_106, e153_107, e153_110, e153_111, e153_114, e153_116, e153_117, e153_120, e153_121, e153_122, e153_125, e153_126, e153_127, e153_128, e153_129, e153_132, e153_133, e153_136, e153_139, e153_140, e153_141, e153_142, e153_145, e153_146, e153_147i, e153_147n, e153_147r, e153_148i, e153_148n, e153_148r, e153_151, e153_152, e153_155, e153_156, e153_158, e153_159, e153_160, e153_163, e153_164, e153_165, e153_168, e153_169, e153_172, e153_173, e153_176, e153_177, e153_180, e153_181i, e153_181n, e153_181r, e153_183, Bool.false_eq_true, Bool.true_eq_false, gfK, pfK, lnK, isC, alK_n, asK_n, List.getElem?_cons_zero, List.getElem?_cons_succ, List.set_cons_zero, List.set_cons_succ, List.length_cons, List.length_nil, ↓reduceIte, if_true, if_false, eq_self, and_true, true_and, and_self, Option.bind_some, Option.bind_none, Option.toList_some, Option.toList_none, List.cons_append, List.nil_append, mset_at, mset_ne, mset_2, mset_mset, Nat.reduceLT, Nat.reduceAdd, nz1, G_RD, G_RD62, S_RD62, y_well, eq_true h3, hi4, shr_1, hb, bit_def, nI_succ', nI_addN, g1, eq_true g4]
            · have g4 := (tk_3 g2) ▸ g3
              rw [decide_eq_false g3, bI_f]
              simp (disch := first | omega | assumption | exact Nat.le_of_ble_eq_true rfl) only [m153, e153_96, e153_99, e153_100, e153_103, e153_106, e153_107, e153_110, e153_111, e153_114, e153_116, e153_117, e153_120, e153_121, e153_122, e153_125, e153_126, e153_127, e153_128, e153_129, e153_132, e153_133, e153_136, e153_139, e153_140, e153_141, e153_142, e153_145, e153_146, e153_147i, e153_147n, e153_147r, e153_148i, e153_148n, e153_148r, e153_151, e153_152, e153_155, e153_156, e153_158, e153_159, e153_160, e153_163, e153_164, e153_165, e153_168, e153_169, e153_172, e153_173, e153_176, e153_177, e153_180, e153_181i, e153_181n, e153_181r, e153_183, Bool.false_eq_true, Bool.true_eq_false, gfK, pfK, lnK, isC, alK_n, asK_n, List.getElem?_cons_zero, List.getElem?_cons_succ, List.set_cons_zero, List.set_cons_succ, List.length_cons, List.length_nil, ↓reduceIte, if_true, if_false, eq_self, and_true, true_and, and_self, Option.bind_some, Option.bind_none, Option.toList_some, Option.toList_none, List.cons_append, List.nil_append, mset_at, mset_ne, mset_2, mset_mset, Nat.reduceLT, Nat.reduceAdd, nz1, G_RD, G_RD62, S_RD62, y_well, eq_true h3, hi4, shr_1, hb, bit_def, nI_succ', nI_addN, g1, g4]
          rcases ih with g | g
          · exact Or.inl (ROk_next hec (Nat.le_of_lt (nx_gt hpn)) hF hem g)
          · exact Or.inr (RNo_next hec hF hem g)
    · rw [decide_eq_false h1, bI_f]
      have hE := way_end (b := b) (u := u) (v := v) (τ := τ) (l1 := l1) (l2 := some (.int (nI s))) (l3 := some (.int (nI d))) (l4 := some (.int (nI i))) (l5 := some (.int 0)) (S := setI (lt (s * 8 + d)) i) hw hT hk hp h h1 hC hD hn hl (by omega)
      have hso := x_sort (b := b) (u := u) (v := v) (τ := τ) h
      have h1' : ¬ nI (tS t n p) = 1 := tS_ne (k := 1) h1 (by decide)
      have hec : ev 24 91 [some (.ref 3), some (.ref w), some (.int (nI s)), some (.int (nI d)), some (.int (nI i))] [] (G b u v A τ) = ev 24 139 [some (.ref 3), some (.ref w), some (.int (nI s)), some (.int (nI d)), some (.int (nI i))] [] (G b u v A τ) := by
        rw [e24_91]
        by_cases h4 : 4 ≤ i
        · simp (disch := first | omega | assumption | exact Nat.le_of_ble_eq_true rfl) only [m24, e24_93, e24_94, e24_97, e24_98, e24_101, e24_104, e24_105, Bool.false_eq_true, Bool.true_eq_false, gfK, pfK, lnK, isC, alK_n, asK_n, List.getElem?_cons_zero, List.getElem?_cons_succ, List.set_cons_zero, List.set_cons_succ, List.length_cons, List.length_nil, ↓reduceIte, if_true, if_false, eq_self, and_true, true_and, and_self, Option.bind_some, Option.bind_none, Option.toList_some, Option.toList_none, List.cons_append, List.nil_append, mset_at, mset_ne, mset_2, mset_mset, Nat.reduceLT, Nat.reduceAdd, le_4, h4]
        · simp (disch := first | omega | assumption | exact Nat.le_of_ble_eq_true rfl) only [m24, e24_93, e24_94, e24_97, e24_98, e24_101, e24_104, e24_105, Bool.false_eq_true, Bool.true_eq_false, gfK, pfK, lnK, isC, alK_n, asK_n, List.getElem?_cons_zero, List.getElem?_cons_succ, List.set_cons_zero, List.set_cons_succ, List.length_cons, List.length_nil, ↓reduceIte, if_true, if_false, eq_self, and_true, true_and, and_self, Option.bind_some, Option.bind_none, Option.toList_some, Option.toList_none, List.cons_append, List.nil_append, mset_at, mset_ne, mset_2, mset_mset, Nat.reduceLT, Nat.reduceAdd, le_4, h4, G_3, G_4, hso, h1']
      have hem : ∀ (b1 : Nat) (u1 v1 : Int64) (τ1 : Nat × Nat × Nat × (Nat → Int32)) (B : Nat → Nat → Int32) (tk va : Int32), TY B n t → MTk t n p tk va → MW4 B lc lt (s * 8 + d) i nb fr to st → MW4 B lc lt (s * 8 + d) i nb fr to st ∧ ev 153 94 [some (.ref 60), l1, some (.int (nI (640 + 5 * (s * 8 + d)))), some (.int (setI (lt (s * 8 + d)) i)), some (.int (nI i)), some (.int 0)] [] (G b1 u1 v1 (YS B n t p tk va (-1) (nI nw) (nI nb)) τ1) = ev 153 186 [some (.ref 60), l1, some (.int (nI (640 + 5 * (s * 8 + d)))), some (.int (setI (lt (s * 8 + d)) i)), some (.int (nI i)), some (.int 0)] [] (G b1 u1 v1 (YS B n t p tk va (-1) (nI nw) (nI nb)) τ1) := by
        intro b1 u1 v1 τ1 B tk va hB hM hX
        refine ⟨hX, ?_⟩
        rw [e153_94]
        simp (disch := first | omega | assumption | exact Nat.le_of_ble_eq_true rfl) only [m153, e153_96, Bool.false_eq_true, Bool.true_eq_false, gfK, pfK, lnK, isC, alK_n, asK_n, List.getElem?_cons_zero, List.getElem?_cons_succ, List.set_cons_zero, List.set_cons_succ, List.length_cons, List.length_nil, ↓reduceIte, if_true, if_false, eq_self, and_true, true_and, and_self, Option.bind_some, Option.bind_none, Option.toList_some, Option.toList_none, List.cons_append, List.nil_append, mset_at, mset_ne, mset_2, mset_mset, Nat.reduceLT, Nat.reduceAdd, nz1]
      rcases hE with g | g
      · exact Or.inl (ROk_ev hec hem g)
      · exact Or.inr (RNo_ev hec hem g)
end WAY2
