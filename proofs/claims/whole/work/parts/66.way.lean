/-! READING A WAY on both sides. -/
/-- an item read well: class first, then the model from any state that holds the same draft -/
def ROk (b : Nat) (u v : Int64) (τ : Nat × Nat × Nat × (Nat → Int32)) (w n : Nat) (t : Nat → Nat) (A : Nat → Nat → Int32) (p nw nb : Nat) (ec : Option (Option Value × mS)) (MX : (Nat → Nat → Int32) → Prop) (em : mS → Option (Option Value × mS)) : Prop :=
  ∃ A' p' lc' lt' nw' nb' fr' to' st', ec = some (some (.int 1), G b u v A' τ) ∧ CAt A' n t p' ∧ CD A' w lc' lt' nw' nb' fr' to' st' ∧ DF lc' lt' nw' nb' fr' to' st' ∧ p < p' ∧ p' ≤ n ∧ FC w A A' ∧ ∀ (b1 : Nat) (u1 v1 : Int64) (τ1 : Nat × Nat × Nat × (Nat → Int32)) (B : Nat → Nat → Int32) (tk va : Int32), TY B n t → MTk t n p tk va → MX B → ∃ B' tk' va', em (G b1 u1 v1 (YS B n t p tk va (-1) (nI nw) (nI nb)) τ1) = some (none, G b1 u1 v1 (YS B' n t p' tk' va' (-1) (nI nw') (nI nb')) τ1) ∧ MTk t n p' tk' va' ∧ MD B' lc' lt' nb' fr' to' st' ∧ FM B B'
/-- an item with a fault at p' -/
def RNo (b : Nat) (u v : Int64) (τ : Nat × Nat × Nat × (Nat → Int32)) (w n : Nat) (t : Nat → Nat) (A : Nat → Nat → Int32) (p nw nb : Nat) (ec : Option (Option Value × mS)) (MX : (Nat → Nat → Int32) → Prop) (em : mS → Option (Option Value × mS)) : Prop :=
  ∃ A' p', ec = some (some (.int 0), G b u v A' τ) ∧ CAt A' n t p' ∧ p' ≤ n ∧ FC w A A' ∧ ∀ (b1 : Nat) (u1 v1 : Int64) (τ1 : Nat × Nat × Nat × (Nat → Int32)) (B : Nat → Nat → Int32) (tk va : Int32), TY B n t → MTk t n p tk va → MX B → ∃ B' n' tk' pl' va' dw' db', em (G b1 u1 v1 (YS B n t p tk va (-1) (nI nw) (nI nb)) τ1) = some (none, G b1 u1 v1 (RD B' n' tk' pl' va' (nI p') dw' db') τ1) ∧ FM B B'
def MW4 (B : Nat → Nat → Int32) (lc : Nat → Nat) (lt : Nat → Nat → Nat) (k i nb : Nat) (fr to : Nat → Nat) (st : Nat → Int32) : Prop := MD B (set1 lc k 0) lt nb fr to st ∧ ∀ j, j < i → B 62 (640 + 5 * k + 1 + j) = nI (lt k j)
section WAY
variable {b w : Nat} {u v : Int64} {A B : Nat → Nat → Int32} {τ : Nat × Nat × Nat × (Nat → Int32)} {lc : Nat → Nat} {lt : Nat → Nat → Nat} {fr to : Nat → Nat} {st : Nat → Int32} {nw nb n i j p e c k q s d : Nat} {t : Nat → Nat} {x y z S n0 tk pl va fa dw db : Int32} {σ : mS} {l1 l2 l3 l4 l5 : Option Value}
theorem G_RD62 : (G b u v (RD A n0 tk pl va fa dw db) τ).1 62 = some (.inl (0, 1280, A 62)) := rfl
theorem S_RD62 {f : Nat → Int32} : mset (G b u v (RD A n0 tk pl va fa dw db) τ) 62 (.inl (0, 1280, f)) = G b u v (RD (up A 62 f) n0 tk pl va fa dw db) τ := S_62.trans (congrArg (fun X => G b u v X τ) (RD_up (by omega)))
theorem S_RD62u {f : Nat → Int32} {x2 x3 x4 x5 x6 x12 x13 : Int32} : mset (G b u v (RD (up A 62 f) n0 tk pl va fa dw db) τ) 60 (.inr (8, [.int (A 60 0), .long v, .ref 61, .int (A 60 1), .int x2, .int x3, .int x4, .int x5, .int x6, .int (A 60 7), .ref 62, .int (A 60 8), .int (A 60 9), .int (A 60 10), .int (A 60 11), .ref 63, .int x12, .int x13, .ref 64, .int (A 60 14), .int (A 60 15), .ref 65, .ref 66, .ref 67, .ref 68, .ref 69, .ref 70, .ref 71, .ref 72])) = G b u v (RD (up A 62 f) x2 x3 x4 x5 x6 x12 x13) τ := S_RD
theorem S_RD63u {f : Nat → Int32} {x2 x3 x4 x5 x6 x12 x13 : Int32} : mset (G b u v (RD (up A 63 f) n0 tk pl va fa dw db) τ) 60 (.inr (8, [.int (A 60 0), .long v, .ref 61, .int (A 60 1), .int x2, .int x3, .int x4, .int x5, .int x6, .int (A 60 7), .ref 62, .int (A 60 8), .int (A 60 9), .int (A 60 10), .int (A 60 11), .ref 63, .int x12, .int x13, .ref 64, .int (A 60 14), .int (A 60 15), .ref 65, .ref 66, .ref 67, .ref 68, .ref 69, .ref 70, .ref 71, .ref 72])) = G b u v (RD (up A 63 f) x2 x3 x4 x5 x6 x12 x13) τ := S_RD
theorem S_RD64u {f : Nat → Int32} {x2 x3 x4 x5 x6 x12 x13 : Int32} : mset (G b u v (RD (up A 64 f) n0 tk pl va fa dw db) τ) 60 (.inr (8, [.int (A 60 0), .long v, .ref 61, .int (A 60 1), .int x2, .int x3, .int x4, .int x5, .int x6, .int (A 60 7), .ref 62, .int (A 60 8), .int (A 60 9), .int (A 60 10), .int (A 60 11), .ref 63, .int x12, .int x13, .ref 64, .int (A 60 14), .int (A 60 15), .ref 65, .ref 66, .ref 67, .ref 68, .ref 69, .ref 70, .ref 71, .ref 72])) = G b u v (RD (up A 64 f) x2 x3 x4 x5 x6 x12 x13) τ := S_RD
theorem FW_def {x0 x1 x2 x3 x4 : Int32} : up A w (fL [x0, x1, x2, x3, x4, A w 5, A w 6]) = FW A w x0 x1 x2 x3 x4 := rfl
theorem FM_62 {f : Nat → Int32} (h : ∀ j, j < 640 → f j = A 62 j) : FM A (up A 62 f) := ⟨fun k a c d => up_ne a, fun j hj => by rw [up_at]; exact h j hj, fun j hj => by rw [up_ne (by omega)]⟩
theorem way_ok (hw : w = 8 ∨ w = 19) (h : CAt A n t p) (hs : tS t n p = 8) (hC : CD A w lc lt nw nb fr to st) (hn : nw < 60) : ∃ A', ev 24 139 [some (.ref 3), some (.ref w), l2, l3, l4] [] (G b u v A τ) = some (some (.int 1), G b u v A' τ) ∧ CAt A' n t (nx t n p) ∧ CD A' w lc lt (nw + 1) nb fr to st ∧ FC w A A' := by
  have h1 : CAt (FW A w (nI (nw + 1)) (A w 1) (A w 2) (A w 3) (A w 4)) n t p := CAt_of (fun k h4 h7 => FW_ne (by omega)) h
  obtain ⟨A', h2, h3, h4⟩ := x_pass_t (b := b) (u := u) (v := v) (τ := τ) (x := 8) h1 (by rw [hs]; rfl)
  obtain ⟨c1, c2, ⟨c3, c4⟩, c5, c6, c7⟩ := hC
  refine ⟨A', ?_, h3, CD_of (fun k a c => h4 k (by omega)) ⟨fun k hk => ?_, by rw [FW_w]; rfl, ⟨by rw [FW_w]; exact c3, fun j hj => ?_⟩, by rw [FW_w]; exact c5, by rw [FW_w]; exact c6, by rw [FW_w]; exact c7⟩, FC_tr (FW_FC hw) (FC_4 h4)⟩
  · simp (disch := first | omega | assumption | exact Nat.le_of_ble_eq_true rfl) only [m24, e24_139, e24_140i, e24_140r, e24_141, e24_144, e24_145, e24_146, e24_149, e24_150, e24_153, e24_155, e24_158b0, e24_158b1, Bool.false_eq_true, Bool.true_eq_false, gfK, pfK, lnK, isC, alK_n, asK_n, List.getElem?_cons_zero, List.getElem?_cons_succ, List.set_cons_zero, List.set_cons_succ, List.length_cons, List.length_nil, ↓reduceIte, if_true, if_false, eq_self, and_true, true_and, and_self, Option.bind_some, Option.bind_none, Option.toList_some, Option.toList_none, List.cons_append, List.nil_append, mset_at, mset_ne, mset_2, mset_mset, Nat.reduceLT, Nat.reduceAdd, G_W0 hw, S_W0 hw, c2, nI_succ', FW_def, G_3, G_4, h2]
  · rw [FW_ne (by omega), FW_ne (by omega), FW_ne (by omega)]
    exact c1 k hk
  · rw [FW_ne (by omega), FW_ne (by omega)]
    exact c4 j hj
theorem way_no (hw : w = 8 ∨ w = 19) (h : CAt A n t p) (hs : ¬ tS t n p = 8) (hC : CD A w lc lt nw nb fr to st) : ∃ A', ev 24 139 [some (.ref 3), some (.ref w), l2, l3, l4] [] (G b u v A τ) = some (some (.int 0), G b u v A' τ) ∧ CAt A' n t p ∧ FC w A A' := by
  have h1 : CAt (FW A w (nI (nw + 1)) (A w 1) (A w 2) (A w 3) (A w 4)) n t p := CAt_of (fun k h4 h7 => FW_ne (by omega)) h
  have h2 := x_pass_f (b := b) (u := u) (v := v) (τ := τ) (x := 8) h1 (fun q => hs (nI_inj (by have := tS_le (t := t) (n := n) (p := p); omega) (by decide) q))
  refine ⟨_, ?_, h1, FW_FC hw⟩
  have c2 := hC.2.1
  simp (disch := first | omega | assumption | exact Nat.le_of_ble_eq_true rfl) only [m24, e24_139, e24_140i, e24_140r, e24_141, e24_144, e24_145, e24_146, e24_149, e24_150, e24_153, e24_155, e24_158b0, e24_158b1, Bool.false_eq_true, Bool.true_eq_false, gfK, pfK, lnK, isC, alK_n, asK_n, List.getElem?_cons_zero, List.getElem?_cons_succ, List.set_cons_zero, List.set_cons_succ, List.length_cons, List.length_nil, ↓reduceIte, if_true, if_false, eq_self, and_true, true_and, and_self, Option.bind_some, Option.bind_none, Option.toList_some, Option.toList_none, List.cons_append, List.nil_append, mset_at, mset_ne, mset_2, mset_mset, Nat.reduceLT, Nat.reduceAdd, G_W0 hw, S_W0 hw, c2, nI_succ', FW_def, G_3, G_4, h2]
theorem yway_x (hq : q < 2147483648) : ev 153 186 [some (.ref 60), l1, l2, l3, l4, l5] [] (G b u v (RD A n0 tk pl va (nI q) dw db) τ) = some (none, G b u v (RD A n0 tk pl va (nI q) dw db) τ) := by
  simp (disch := first | omega | assumption | exact Nat.le_of_ble_eq_true rfl) only [m153, e153_186, e153_187, e153_189, e153_192, e153_193, e153_196, e153_199, e153_200, e153_203, e153_204, e153_206, e153_207, e153_208i, e153_208r, e153_209, e153_212, e153_213, e153_214, e153_217, Bool.false_eq_true, Bool.true_eq_false, gfK, pfK, lnK, isC, alK_n, asK_n, List.getElem?_cons_zero, List.getElem?_cons_succ, List.set_cons_zero, List.set_cons_succ, List.length_cons, List.length_nil, ↓reduceIte, if_true, if_false, eq_self, and_true, true_and, and_self, Option.bind_some, Option.bind_none, Option.toList_some, Option.toList_none, List.cons_append, List.nil_append, mset_at, mset_ne, mset_2, mset_mset, Nat.reduceLT, Nat.reduceAdd, G_RD, y_sign_x hq, y_ill hq]
theorem yway_no (hp : p ≤ n) (hn : n ≤ 600) (hM : MTk t n p tk va) (hs : ¬ tS t n p = 8) : ev 153 186 [some (.ref 60), l1, l2, l3, l4, l5] [] (G b u v (RD A n0 tk (nI p) va (-1) dw db) τ) = some (none, G b u v (RD A n0 tk (nI p) va (nI p) dw db) τ) := by
  simp (disch := first | omega | assumption | exact Nat.le_of_ble_eq_true rfl) only [m153, e153_186, e153_187, e153_189, e153_192, e153_193, e153_196, e153_199, e153_200, e153_203, e153_204, e153_206, e153_207, e153_208i, e153_208r, e153_209, e153_212, e153_213, e153_214, e153_217, Bool.false_eq_true, Bool.true_eq_false, gfK, pfK, lnK, isC, alK_n, asK_n, List.getElem?_cons_zero, List.getElem?_cons_succ, List.set_cons_zero, List.set_cons_succ, List.length_cons, List.length_nil, ↓reduceIte, if_true, if_false, eq_self, and_true, true_and, and_self, Option.bind_some, Option.bind_none, Option.toList_some, Option.toList_none, List.cons_append, List.nil_append, mset_at, mset_ne, mset_2, mset_mset, Nat.reduceLT, Nat.reduceAdd, G_RD, y_semiF hM hs, y_ill (show p < 2147483648 by omega)]
theorem yway_ok (hT : TY B n t) (hk : k < 128) (hp : p ≤ n) (hM : MTk t n p tk va) (hs : tS t n p = 8) (hl : lc k = i) (hi : i ≤ 4) (hW : WF lc lt) (hD : MW4 B lc lt k i nb fr to st) : ∃ B' tk' va', ev 153 186 [some (.ref 60), l1, some (.int (nI (640 + 5 * k))), l3, some (.int (nI i)), l5] [] (G b u v (YS B n t p tk va (-1) (nI nw) (nI nb)) τ) = some (none, G b u v (YS B' n t (nx t n p) tk' va' (-1) (nI (nw + 1)) (nI nb)) τ) ∧ MTk t n (nx t n p) tk' va' ∧ MD B' lc lt nb fr to st ∧ FM B B' := by
  obtain ⟨tk', va', h1, h2⟩ := y_semi (b := b) (u := u) (v := v) (τ := τ) (dw := nI nw) (db := nI nb) hT hp hM hs
  obtain ⟨⟨d1, d2, d3⟩, d4⟩ := hD
  refine ⟨up B 62 (upd (B 62) (640 + 5 * k) (nI i)), tk', va', ?_, h2, ⟨fun j hj => ?_, fun j hj => ?_, ?_⟩, FM_62 (fun j hj => upd_ne (by omega))⟩
  · unfold YS at h1 ⊢
    simp (disch := first | omega | assumption | exact Nat.le_of_ble_eq_true rfl) only [m153, e153_186, e153_187, e153_189, e153_192, e153_193, e153_196, e153_199, e153_200, e153_203, e153_204, e153_206, e153_207, e153_208i, e153_208r, e153_209, e153_212, e153_213, e153_214, e153_217, Bool.false_eq_true, Bool.true_eq_false, gfK, pfK, lnK, isC, alK_n, asK_n, List.getElem?_cons_zero, List.getElem?_cons_succ, List.set_cons_zero, List.set_cons_succ, List.length_cons, List.length_nil, ↓reduceIte, if_true, if_false, eq_self, and_true, true_and, and_self, Option.bind_some, Option.bind_none, Option.toList_some, Option.toList_none, List.cons_append, List.nil_append, mset_at, mset_ne, mset_2, mset_mset, Nat.reduceLT, Nat.reduceAdd, G_RD, S_RD, S_RD62u, G_RD62, S_RD62, h1, y_well, nz1, nI_succ']
  · rw [up_at]
    by_cases e : j = k
    · rw [e, upd_at, hl]
      refine ⟨rfl, fun m hm => ?_⟩
      rw [upd_ne (by omega)]
      exact d4 m hm
    · have h5 := d1 j hj
      have h6 := (hW j hj).1
      rw [set1_ne e] at h5
      rw [upd_ne (by omega)]
      refine ⟨h5.1, fun m hm => ?_⟩
      rw [upd_ne (by omega)]
      exact h5.2 m hm
  · rw [up_ne (by omega)]
    exact d2 j hj
  · rw [up_ne (by omega)]
    exact d3
theorem DF_nw (hD : DF lc lt nw nb fr to st) (h : nw < 60) : DF lc lt (nw + 1) nb fr to st := ⟨hD.1, by omega, hD.2.2⟩
/-- the end of a way, behind its lots -/
theorem way_end (hw : w = 8 ∨ w = 19) (hT : TX A n t) (hk : k < 128) (hp : p ≤ n) (h : CAt A n t p) (hs : ¬ tS t n p = 1) (hC : CD A w lc lt nw nb fr to st) (hD : DF lc lt nw nb fr to st) (hn : nw < 60) (hl : lc k = i) (hi : i ≤ 4) : ROk b u v τ w n t A p nw nb (ev 24 139 [some (.ref 3), some (.ref w), l2, l3, l4] [] (G b u v A τ)) (fun B => MW4 B lc lt k i nb fr to st) (fun σ => ev 153 186 [some (.ref 60), l1, some (.int (nI (640 + 5 * k))), some (.int S), some (.int (nI i)), l5] [] σ) ∨ RNo b u v τ w n t A p nw nb (ev 24 139 [some (.ref 3), some (.ref w), l2, l3, l4] [] (G b u v A τ)) (fun B => MW4 B lc lt k i nb fr to st) (fun σ => ev 153 186 [some (.ref 60), l1, some (.int (nI (640 + 5 * k))), some (.int S), some (.int (nI i)), l5] [] σ) := by
  by_cases h8 : tS t n p = 8
  · obtain ⟨A', h1, h2, h3, h4⟩ := way_ok (b := b) (u := u) (v := v) (τ := τ) (l2 := l2) (l3 := l3) (l4 := l4) hw h h8 hC hn
    have hpn : p < n := by
      by_cases g : p = n
      · rw [g, tS_n] at h8
        omega
      · omega
    refine Or.inl ⟨A', nx t n p, lc, lt, nw + 1, nb, fr, to, st, h1, h2, h3, DF_nw hD hn, nx_gt hpn, nx_le hp, h4, fun b1 u1 v1 τ1 B tk va hB hM hX => ?_⟩
    exact yway_ok hB hk hp hM h8 hl hi hD.1 hX
  · obtain ⟨A', h1, h2, h3⟩ := way_no (b := b) (u := u) (v := v) (τ := τ) (l2 := l2) (l3 := l3) (l4 := l4) hw h h8 hC
    refine Or.inr ⟨A', p, h1, h2, hp, h3, fun b1 u1 v1 τ1 B tk va hB hM hX => ?_⟩
    exact ⟨B, _, _, _, _, _, _, yway_no hp hB.1 hM h8, FM_rf⟩
theorem ROk_ev {ec ec' : Option (Option Value × mS)} {MX MX' : (Nat → Nat → Int32) → Prop} {em em' : mS → Option (Option Value × mS)} (h1 : ec' = ec) (h2 : ∀ (b1 : Nat) (u1 v1 : Int64) (τ1 : Nat × Nat × Nat × (Nat → Int32)) (B : Nat → Nat → Int32) (tk va : Int32), TY B n t → MTk t n p tk va → MX' B → MX B ∧ em' (G b1 u1 v1 (YS B n t p tk va (-1) (nI nw) (nI nb)) τ1) = em (G b1 u1 v1 (YS B n t p tk va (-1) (nI nw) (nI nb)) τ1)) (h : ROk b u v τ w n t A p nw nb ec MX em) : ROk b u v τ w n t A p nw nb ec' MX' em' := by
  obtain ⟨A', p', lc', lt', nw', nb', fr', to', st', g1, g2, g3, g4, g5, g6, g7, g8⟩ := h
  refine ⟨A', p', lc', lt', nw', nb', fr', to', st', h1.trans g1, g2, g3, g4, g5, g6, g7, fun b1 u1 v1 τ1 B tk va hB hM hX => ?_⟩
  obtain ⟨hX', he⟩ := h2 b1 u1 v1 τ1 B tk va hB hM hX
  obtain ⟨B', tk', va', k1, k2⟩ := g8 b1 u1 v1 τ1 B tk va hB hM hX'
  exact ⟨B', tk', va', he.trans k1, k2⟩
theorem RNo_ev {ec ec' : Option (Option Value × mS)} {MX MX' : (Nat → Nat → Int32) → Prop} {em em' : mS → Option (Option Value × mS)} (h1 : ec' = ec) (h2 : ∀ (b1 : Nat) (u1 v1 : Int64) (τ1 : Nat × Nat × Nat × (Nat → Int32)) (B : Nat → Nat → Int32) (tk va : Int32), TY B n t → MTk t n p tk va → MX' B → MX B ∧ em' (G b1 u1 v1 (YS B n t p tk va (-1) (nI nw) (nI nb)) τ1) = em (G b1 u1 v1 (YS B n t p tk va (-1) (nI nw) (nI nb)) τ1)) (h : RNo b u v τ w n t A p nw nb ec MX em) : RNo b u v τ w n t A p nw nb ec' MX' em' := by
  obtain ⟨A', p', g1, g2, g6, g7, g8⟩ := h
  refine ⟨A', p', h1.trans g1, g2, g6, g7, fun b1 u1 v1 τ1 B tk va hB hM hX => ?_⟩
  obtain ⟨hX', he⟩ := h2 b1 u1 v1 τ1 B tk va hB hM hX
  obtain ⟨B', n', tk', pl', va', dw', db', k1, k2⟩ := g8 b1 u1 v1 τ1 B tk va hB hM hX'
  exact ⟨B', n', tk', pl', va', dw', db', he.trans k1, k2⟩
/-- from one token to the next on both sides -/
theorem ROk_next {A1 : Nat → Nat → Int32} {p1 nw1 nb1 : Nat} {ec ec' : Option (Option Value × mS)} {MX MX' : (Nat → Nat → Int32) → Prop} {em em' : mS → Option (Option Value × mS)} (h1 : ec' = ec) (hp : p ≤ p1) (hF : FC w A A1) (h2 : ∀ (b1 : Nat) (u1 v1 : Int64) (τ1 : Nat × Nat × Nat × (Nat → Int32)) (B : Nat → Nat → Int32) (tk va : Int32), TY B n t → MTk t n p tk va → MX' B → ∃ B' tk' va', TY B' n t ∧ MTk t n p1 tk' va' ∧ MX B' ∧ FM B B' ∧ em' (G b1 u1 v1 (YS B n t p tk va (-1) (nI nw) (nI nb)) τ1) = em (G b1 u1 v1 (YS B' n t p1 tk' va' (-1) (nI nw1) (nI nb1)) τ1)) (h : ROk b u v τ w n t A1 p1 nw1 nb1 ec MX em) : ROk b u v τ w n t A p nw nb ec' MX' em' := by
  obtain ⟨A', p', lc', lt', nw', nb', fr', to', st', g1, g2, g3, g4, g5, g6, g7, g8⟩ := h
  refine ⟨A', p', lc', lt', nw', nb', fr', to', st', h1.trans g1, g2, g3, g4, by omega, g6, FC_tr hF g7, fun b1 u1 v1 τ1 B tk va hB hM hX => ?_⟩
  obtain ⟨B1, tk1, va1, f1, f2, f3, f4, f5⟩ := h2 b1 u1 v1 τ1 B tk va hB hM hX
  obtain ⟨B', tk', va', k1, k2, k3, k4⟩ := g8 b1 u1 v1 τ1 B1 tk1 va1 f1 f2 f3
  exact ⟨B', tk', va', f5.trans k1, k2, k3, FM_tr f4 k4⟩
theorem RNo_next {A1 : Nat → Nat → Int32} {p1 nw1 nb1 : Nat} {ec ec' : Option (Option Value × mS)} {MX MX' : (Nat → Nat → Int32) → Prop} {em em' : mS → Option (Option Value × mS)} (h1 : ec' = ec) (hF : FC w A A1) (h2 : ∀ (b1 : Nat) (u1 v1 : Int64) (τ1 : Nat × Nat × Nat × (Nat → Int32)) (B : Nat → Nat → Int32) (tk va : Int32), TY B n t → MTk t n p tk va → MX' B → ∃ B' tk' va', TY B' n t ∧ MTk t n p1 tk' va' ∧ MX B' ∧ FM B B' ∧ em' (G b1 u1 v1 (YS B n t p tk va (-1) (nI nw) (nI nb)) τ1) = em (G b1 u1 v1 (YS B' n t p1 tk' va' (-1) (nI nw1) (nI nb1)) τ1)) (h : RNo b u v τ w n t A1 p1 nw1 nb1 ec MX em) : RNo b u v τ w n t A p nw nb ec' MX' em' := by
  obtain ⟨A', p', g1, g2, g6, g7, g8⟩ := h
  refine ⟨A', p', h1.trans g1, g2, g6, FC_tr hF g7, fun b1 u1 v1 τ1 B tk va hB hM hX => ?_⟩
  obtain ⟨B1, tk1, va1, f1, f2, f3, f4, f5⟩ := h2 b1 u1 v1 τ1 B tk va hB hM hX
  obtain ⟨B', n', tk', pl', va', dw', db', k1, k2⟩ := g8 b1 u1 v1 τ1 B1 tk1 va1 f1 f2 f3
  exact ⟨B', n', tk', pl', va', dw', db', f5.trans k1, FM_tr f4 k2⟩
end WAY
