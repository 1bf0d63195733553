/-! THE CALL world: its end on both sides. -/
/-- the model's own numbers -/
def W60 (A : Nat → Nat → Int32) (ty n0 tk pl va fa wy nv go re ba dw db : Int32) : Nat → Nat → Int32 := up A 60 (fL [A 60 0, ty, n0, tk, pl, va, fa, wy, nv, go, re, ba, dw, db, A 60 14, A 60 15])
section WEND
variable {b w : Nat} {u v : Int64} {A B : Nat → Nat → Int32} {τ : Nat × Nat × Nat × (Nat → Int32)} {lc : Nat → Nat} {lt : Nat → Nat → Nat} {fr to : Nat → Nat} {st : Nat → Int32} {nw nb n p : Nat} {t : Nat → Nat} {ty n0 tk pl va fa wy nv go re ba dw db y1 y2 y3 y4 y5 y6 y7 y8 y9 y10 y11 y12 y13 : Int32} {l1 : Option Value}
theorem RD_W60 : RD A n0 tk pl va fa dw db = W60 A (A 60 1) n0 tk pl va fa (A 60 7) (A 60 8) (A 60 9) (A 60 10) (A 60 11) dw db := rfl
theorem G_W60 : (G b u v (W60 A ty n0 tk pl va fa wy nv go re ba dw db) τ).1 60 = some (.inr (8, [.int (A 60 0), .long v, .ref 61, .int ty, .int n0, .int tk, .int pl, .int va, .int fa, .int wy, .ref 62, .int nv, .int go, .int re, .int ba, .ref 63, .int dw, .int db, .ref 64, .int (A 60 14), .int (A 60 15), .ref 65, .ref 66, .ref 67, .ref 68, .ref 69, .ref 70, .ref 71, .ref 72])) := rfl
theorem S_W60 : mset (G b u v (W60 A ty n0 tk pl va fa wy nv go re ba dw db) τ) 60 (.inr (8, [.int (A 60 0), .long v, .ref 61, .int y1, .int y2, .int y3, .int y4, .int y5, .int y6, .int y7, .ref 62, .int y8, .int y9, .int y10, .int y11, .ref 63, .int y12, .int y13, .ref 64, .int (A 60 14), .int (A 60 15), .ref 65, .ref 66, .ref 67, .ref 68, .ref 69, .ref 70, .ref 71, .ref 72])) = G b u v (W60 A y1 y2 y3 y4 y5 y6 y7 y8 y9 y10 y11 y12 y13) τ := S_60.trans (congrArg (fun X => G b u v X τ) up_up)
theorem G_W64 : (G b u v (W60 A ty n0 tk pl va fa wy nv go re ba dw db) τ).1 64 = some (.inl (0, 3, A 64)) := rfl
theorem W60_ne {k : Nat} (h : k ≠ 60) : W60 A ty n0 tk pl va fa wy nv go re ba dw db k = A k := up_ne h
theorem le_640 {i : Nat} (h : i < 2147483648) : ((640 : Int32) ≤ nI i) = (640 ≤ i) := propext (nI_leI (a := 640) (by decide) h)
theorem y168 : ∀ (f i : Nat) (A : Nat → Nat → Int32), i + f = 640 → (∀ j, j < i → A 62 j = A 62 (640 + j)) → ∃ A', ev 147 168 [some (.ref 60), some (.int (nI i))] [] (G b u v (RD A n0 tk pl va fa dw db) τ) = ev 147 197 [some (.ref 60), some (.int (nI 640))] [] (G b u v (RD A' n0 tk pl va fa dw db) τ) ∧ (∀ j, j < 640 → A' 62 j = A 62 (640 + j)) ∧ ∀ k, k ≠ 62 → A' k = A k
  | 0, i, A, hi, hz => by
    have : i = 640 := by omega
    subst this
    refine ⟨A, ?_, hz, fun k _ => rfl⟩
    rw [e147_168]
    simp (disch := first | omega | assumption | exact Nat.le_of_ble_eq_true rfl) only [m147, e147_169, e147_172, Bool.false_eq_true, Bool.true_eq_false, gfK, pfK, lnK, isC, alK_n, asK_n, List.getElem?_cons_zero, List.getElem?_cons_succ, List.set_cons_zero, List.set_cons_succ, List.length_cons, List.length_nil, ↓reduceIte, if_true, if_false, eq_self, and_true, true_and, and_self, Option.bind_some, Option.bind_none, Option.toList_some, Option.toList_none, List.cons_append, List.nil_append, mset_at, mset_ne, mset_2, mset_mset, Nat.reduceLT, Nat.reduceAdd, le_640, Nat.le_refl]
  | f + 1, i, A, hi, hz => by
    obtain ⟨A', h1, h2, h3⟩ := y168 f (i + 1) (up A 62 (upd (A 62) i (A 62 (640 + i)))) (by omega) (fun j hj => by
      rw [up_at, upd_ne (show 640 + j ≠ i by omega)]
      by_cases e : j = i
      · rw [e, upd_at]
      · rw [upd_ne e]
        exact hz j (by omega))
    refine ⟨A', ?_, fun j hj => by rw [h2 j hj, up_at, upd_ne (by omega)], fun k a => by rw [h3 k a, up_ne a]⟩
    have h8 : ¬ 640 ≤ i := by omega
    rw [e147_168]
    simp (disch := first | omega | assumption | exact Nat.le_of_ble_eq_true rfl) only [m147, e147_169, e147_172, e147_175, e147_176, e147_179, e147_180, e147_181, e147_184, e147_187, e147_188, e147_189, e147_190, e147_191i, e147_191n, e147_191r, e147_194, Bool.false_eq_true, Bool.true_eq_false, gfK, pfK, lnK, isC, alK_n, asK_n, List.getElem?_cons_zero, List.getElem?_cons_succ, List.set_cons_zero, List.set_cons_succ, List.length_cons, List.length_nil, ↓reduceIte, if_true, if_false, eq_self, and_true, true_and, and_self, Option.bind_some, Option.bind_none, Option.toList_some, Option.toList_none, List.cons_append, List.nil_append, mset_at, mset_ne, mset_2, mset_mset, Nat.reduceLT, Nat.reduceAdd, le_640, h8, G_RD, G_RD62, S_RD62, la_640, nI_succ', h1]
theorem y199 : ∀ (f i : Nat) (A : Nat → Nat → Int32), i + f = 20 → (∀ j, j < i → A 63 j = A 63 (20 + j)) → ∃ A', ev 147 199 [some (.ref 60), some (.int (nI i))] [] (G b u v (RD A n0 tk pl va fa dw db) τ) = ev 147 226 [some (.ref 60), some (.int (nI 20))] [] (G b u v (RD A' n0 tk pl va fa dw db) τ) ∧ (∀ j, j < 20 → A' 63 j = A 63 (20 + j)) ∧ ∀ k, k ≠ 63 → A' k = A k
  | 0, i, A, hi, hz => by
    have : i = 20 := by omega
    subst this
    refine ⟨A, ?_, hz, fun k _ => rfl⟩
    rw [e147_199]
    simp (disch := first | omega | assumption | exact Nat.le_of_ble_eq_true rfl) only [m147, e147_200, e147_202, Bool.false_eq_true, Bool.true_eq_false, gfK, pfK, lnK, isC, alK_n, asK_n, List.getElem?_cons_zero, List.getElem?_cons_succ, List.set_cons_zero, List.set_cons_succ, List.length_cons, List.length_nil, ↓reduceIte, if_true, if_false, eq_self, and_true, true_and, and_self, Option.bind_some, Option.bind_none, Option.toList_some, Option.toList_none, List.cons_append, List.nil_append, mset_at, mset_ne, mset_2, mset_mset, Nat.reduceLT, Nat.reduceAdd, le_20, Nat.le_refl]
  | f + 1, i, A, hi, hz => by
    obtain ⟨A', h1, h2, h3⟩ := y199 f (i + 1) (up A 63 (upd (A 63) i (A 63 (20 + i)))) (by omega) (fun j hj => by
      rw [up_at, upd_ne (show 20 + j ≠ i by omega)]
      by_cases e : j = i
      · rw [e, upd_at]
      · rw [upd_ne e]
        exact hz j (by omega))
    refine ⟨A', ?_, fun j hj => by rw [h2 j hj, up_at, upd_ne (by omega)], fun k a => by rw [h3 k a, up_ne a]⟩
    have h8 : ¬ 20 ≤ i := by omega
    rw [e147_199]
    simp (disch := first | omega | assumption | exact Nat.le_of_ble_eq_true rfl) only [m147, e147_200, e147_202, e147_205, e147_206, e147_209, e147_210, e147_211, e147_214, e147_216, e147_217, e147_218, e147_219, e147_220i, e147_220n, e147_220r, e147_223, Bool.false_eq_true, Bool.true_eq_false, gfK, pfK, lnK, isC, alK_n, asK_n, List.getElem?_cons_zero, List.getElem?_cons_succ, List.set_cons_zero, List.set_cons_succ, List.length_cons, List.length_nil, ↓reduceIte, if_true, if_false, eq_self, and_true, true_and, and_self, Option.bind_some, Option.bind_none, Option.toList_some, Option.toList_none, List.cons_append, List.nil_append, mset_at, mset_ne, mset_2, mset_mset, Nat.reduceLT, Nat.reduceAdd, le_20, h8, G_RD, G_RD63, S_RD63, la_20, nI_succ', h1]
theorem y_end (hM : MD B lc lt nb fr to st) (hD : DF lc lt nw nb fr to st) : ∃ C, ev 147 151 [some (.ref 60), l1] [] (G b u v (RD B n0 tk pl va (-1) (nI nw) (nI nb)) τ) = some (some (.int (nI nw)), G b u v C τ) ∧ (C 60 0 = B 60 0 ∧ C 60 1 = 0 ∧ C 60 7 = nI nw ∧ C 60 8 = st 0 ∧ C 60 9 = st 1 ∧ C 60 10 = st 2 ∧ C 60 11 = nI nb ∧ C 60 14 = brk lc (st 2) (st 0) ∧ C 60 15 = saf lc lt (st 2) (st 0)) ∧ MW C lc lt ∧ (∀ j, j < nb → C 63 (2 * j) = nI (fr j) ∧ C 63 (2 * j + 1) = nI (to j)) ∧ (∀ s, s < 16 → C 65 s = dm lc lt (brk lc (st 2) (st 0)) (saf lc lt (st 2) (st 0)) 16 s) ∧ ∀ k, k ≠ 60 → k ≠ 62 → k ≠ 63 → k ≠ 65 → C k = B k := by
  obtain ⟨A1, a1, a2, a3⟩ := y168 (b := b) (u := u) (v := v) (τ := τ) (n0 := n0) (tk := tk) (pl := pl) (va := va) (fa := -1) (dw := nI nw) (db := nI nb) 640 0 B rfl (fun j hj => absurd hj (Nat.not_lt_zero j))
  obtain ⟨A2, c1, c2, c3⟩ := y199 (b := b) (u := u) (v := v) (τ := τ) (n0 := n0) (tk := tk) (pl := pl) (va := va) (fa := -1) (dw := nI nw) (db := nI nb) 20 0 A1 rfl (fun j hj => absurd hj (Nat.not_lt_zero j))
  obtain ⟨m1, m2, m3, m4, m5⟩ := hM
  have e64 : A2 64 = B 64 := by rw [c3 64 (by omega), a3 64 (by omega)]
  have e62 : A2 62 = A1 62 := c3 62 (by omega)
  have hMW : MW A2 lc lt := fun k hk => by
    have hl := (hD.1 k hk).1
    rw [e62, a2 (5 * k) (by omega)]
    refine ⟨(m1 k hk).1, fun i hi => ?_⟩
    rw [a2 (5 * k + 1 + i) (by omega), show 640 + (5 * k + 1 + i) = 640 + 5 * k + 1 + i by omega]
    exact (m1 k hk).2 i hi
  have hM3 : ∀ j, j < nb → A2 63 (2 * j) = nI (fr j) ∧ A2 63 (2 * j + 1) = nI (to j) := fun j hj => by
    have h10 := hD.2.2.1.1
    rw [c2 (2 * j) (by omega), c2 (2 * j + 1) (by omega), a3 63 (by omega), show 20 + (2 * j + 1) = 21 + 2 * j by omega]
    exact m2 j hj
  have hj : evM 138 [.ref 60] (G b u v (W60 A2 0 n0 tk pl va (-1) (nI nw) (st 0) (st 1) (st 2) (nI nb) (nI nw) (nI nb)) τ) = some (none, G b u v (jud (W60 A2 0 n0 tk pl va (-1) (nI nw) (st 0) (st 1) (st 2) (nI nb) (nI nw) (nI nb)) lc lt (brk lc (st 2) (st 0)) (saf lc lt (st 2) (st 0))) τ) := V_judges (MW_up (by omega) hMW) hD.1 hD.2.2.2.1
  have g7 : (G b u v (jud (W60 A2 0 n0 tk pl va (-1) (nI nw) (st 0) (st 1) (st 2) (nI nb) (nI nw) (nI nb)) lc lt (brk lc (st 2) (st 0)) (saf lc lt (st 2) (st 0))) τ).1 60 = some (.inr (8, [.int (A2 60 0), .long v, .ref 61, .int 0, .int n0, .int tk, .int pl, .int va, .int (-1), .int (nI nw), .ref 62, .int (st 0), .int (st 1), .int (st 2), .int (nI nb), .ref 63, .int (nI nw), .int (nI nb), .ref 64, .int (brk lc (st 2) (st 0)), .int (saf lc lt (st 2) (st 0)), .ref 65, .ref 66, .ref 67, .ref 68, .ref 69, .ref 70, .ref 71, .ref 72])) := rfl
  have hne : ∀ k, k ≠ 60 → k ≠ 65 → jud (W60 A2 0 n0 tk pl va (-1) (nI nw) (st 0) (st 1) (st 2) (nI nb) (nI nw) (nI nb)) lc lt (brk lc (st 2) (st 0)) (saf lc lt (st 2) (st 0)) k = A2 k := fun k k1 k2 => by
    rw [jud, up_ne k2, JG_ne k1, W60_ne k1]
  refine ⟨jud (W60 A2 0 n0 tk pl va (-1) (nI nw) (st 0) (st 1) (st 2) (nI nb) (nI nw) (nI nb)) lc lt (brk lc (st 2) (st 0)) (saf lc lt (st 2) (st 0)), ?_, ⟨?_, rfl, rfl, rfl, rfl, rfl, rfl, rfl, rfl⟩, ?_, ?_, ?_, ?_⟩
  · have a1' : ev 147 168 [some (.ref 60), some (.int 0)] [] (G b u v (RD B n0 tk pl va (-1) (nI nw) (nI nb)) τ) = _ := a1
    have c1' : ev 147 199 [some (.ref 60), some (.int 0)] [] (G b u v (RD A1 n0 tk pl va (-1) (nI nw) (nI nb)) τ) = _ := c1
    rw [← e64] at m3 m4 m5
    simp (disch := first | omega | assumption | exact Nat.le_of_ble_eq_true rfl) only [m147, e147_151, e147_152, e147_155, e147_158, e147_160, e147_161, e147_164, e147_165, e147_166, e147_167i, e147_167n, e147_167r, Bool.false_eq_true, Bool.true_eq_false, gfK, pfK, lnK, isC, alK_n, asK_n, List.getElem?_cons_zero, List.getElem?_cons_succ, List.set_cons_zero, List.set_cons_succ, List.length_cons, List.length_nil, ↓reduceIte, if_true, if_false, eq_self, and_true, true_and, and_self, Option.bind_some, Option.bind_none, Option.toList_some, Option.toList_none, List.cons_append, List.nil_append, mset_at, mset_ne, mset_2, mset_mset, Nat.reduceLT, Nat.reduceAdd, G_RD, y_well, nz1, a1']
    simp (disch := first | omega | assumption | exact Nat.le_of_ble_eq_true rfl) only [m147, e147_197, e147_198i, e147_198n, e147_198r, Bool.false_eq_true, Bool.true_eq_false, gfK, pfK, lnK, isC, alK_n, asK_n, List.getElem?_cons_zero, List.getElem?_cons_succ, List.set_cons_zero, List.set_cons_succ, List.length_cons, List.length_nil, ↓reduceIte, if_true, if_false, eq_self, and_true, true_and, and_self, Option.bind_some, Option.bind_none, Option.toList_some, Option.toList_none, List.cons_append, List.nil_append, mset_at, mset_ne, mset_2, mset_mset, Nat.reduceLT, Nat.reduceAdd, c1']
    rw [RD_W60]
    simp (disch := first | omega | assumption | exact Nat.le_of_ble_eq_true rfl) only [m147, e147_226, e147_227, e147_228, e147_231, e147_232, e147_233, e147_236, e147_237, e147_238, e147_241, e147_242, e147_243, e147_246, e147_247, e147_248, e147_251, e147_252, e147_253, e147_256, e147_257, e147_258, e147_261, e147_264, e147_265, e147_266, e147_269, e147_272, e147_273, e147_274, e147_277, e147_278, Bool.false_eq_true, Bool.true_eq_false, gfK, pfK, lnK, isC, alK_n, asK_n, List.getElem?_cons_zero, List.getElem?_cons_succ, List.set_cons_zero, List.set_cons_succ, List.length_cons, List.length_nil, ↓reduceIte, if_true, if_false, eq_self, and_true, true_and, and_self, Option.bind_some, Option.bind_none, Option.toList_some, Option.toList_none, List.cons_append, List.nil_append, mset_at, mset_ne, mset_2, mset_mset, Nat.reduceLT, Nat.reduceAdd, G_W60, G_W64, S_W60, alK_l0, alK_l1, alK_l2, m3, m4, m5, hj]
    simp (disch := first | omega | assumption | exact Nat.le_of_ble_eq_true rfl) only [m147, e147_281, e147_282, e147_285, Bool.false_eq_true, Bool.true_eq_false, gfK, pfK, lnK, isC, alK_n, asK_n, List.getElem?_cons_zero, List.getElem?_cons_succ, List.set_cons_zero, List.set_cons_succ, List.length_cons, List.length_nil, ↓reduceIte, if_true, if_false, eq_self, and_true, true_and, and_self, Option.bind_some, Option.bind_none, Option.toList_some, Option.toList_none, List.cons_append, List.nil_append, mset_at, mset_ne, mset_2, mset_mset, Nat.reduceLT, Nat.reduceAdd, g7]
  · show A2 60 0 = B 60 0
    rw [c3 60 (by omega), a3 60 (by omega)]
  · intro k hk
    rw [hne 62 (by omega) (by omega)]
    exact hMW k hk
  · rw [hne 63 (by omega) (by omega)]
    exact hM3
  · intro s hs
    show jud _ lc lt _ _ 65 s = _
    rw [jud, up_at, mix, if_pos hs]
  · intro k k1 k2 k3 k4
    rw [hne k k1 k4, c3 k k3, a3 k k2]
theorem y_endN (hp : p < 2147483648) : ev 147 151 [some (.ref 60), l1] [] (G b u v (RD B n0 tk pl va (nI p) dw db) τ) = some (some (.int (-10 - nI p)), G b u v (RD B n0 tk pl va (nI p) dw db) τ) := by
  simp (disch := first | omega | assumption | exact Nat.le_of_ble_eq_true rfl) only [m147, e147_151, e147_152, e147_155, e147_158, e147_160, e147_161, e147_164, e147_165, Bool.false_eq_true, Bool.true_eq_false, gfK, pfK, lnK, isC, alK_n, asK_n, List.getElem?_cons_zero, List.getElem?_cons_succ, List.set_cons_zero, List.set_cons_succ, List.length_cons, List.length_nil, ↓reduceIte, if_true, if_false, eq_self, and_true, true_and, and_self, Option.bind_some, Option.bind_none, Option.toList_some, Option.toList_none, List.cons_append, List.nil_append, mset_at, mset_ne, mset_2, mset_mset, Nat.reduceLT, Nat.reduceAdd, G_RD, y_ill hp]
/-- what the class's world at w holds once settled -/
def WC (A : Nat → Nat → Int32) (w : Nat) (lc : Nat → Nat) (lt : Nat → Nat → Nat) (nw nb : Nat) (fr to : Nat → Nat) (st : Nat → Int32) : Prop := CW A w lc lt ∧ BRc A w nb fr to ∧ (A w 0 = nI nw ∧ A w 2 = st 0 ∧ A w 3 = st 1 ∧ A w 4 = st 2 ∧ A w 5 = brk lc (st 2) (st 0) ∧ A w 6 = saf lc lt (st 2) (st 0)) ∧ (∀ s, s < 16 → A (w + 6) s = letF lc lt (saf lc lt (st 2) (st 0)) s ∧ A (w + 7) s = dm lc lt (brk lc (st 2) (st 0)) (saf lc lt (st 2) (st 0)) 16 s ∧ A (w + 8) s = sr lc lt (saf lc lt (st 2) (st 0)) (st 1) 16 s ∧ A (w + 9) s = sr lc lt (saf lc lt (st 2) (st 0)) (st 2) 16 s) ∧ A (w + 10) 0 = nI (rnd lc lt nb fr to).1 ∧ A (w + 10) 1 = (rnd lc lt nb fr to).2.1 ∧ A (w + 10) 2 = (rnd lc lt nb fr to).2.2.1 ∧ A (w + 10) 3 = (rnd lc lt nb fr to).2.2.2
theorem Gb_0 (h : b + w = 27) : (G b u v A τ).1 0 = some (.inr (7, [.ref 1, .ref 3, .ref b, .ref w, .ref 30, .ref 39, .ref 48, .ref 57, .ref 58, .ref 59, .long u])) := by
  rw [G_0, show 27 - b = w by omega]
theorem Sb_0 (h : b + w = 27) : mset (G b u v A τ) 0 (.inr (7, [.ref 1, .ref 3, .ref w, .ref b, .ref 30, .ref 39, .ref 48, .ref 57, .ref 58, .ref 59, .long u])) = G w u v A τ := by
  rw [show b = 27 - w by omega]
  exact S_0
theorem WC_stl (hC : CD A w lc lt nw nb fr to st) : CW (stl A w lc lt (brk lc (st 2) (st 0)) (saf lc lt (st 2) (st 0))) w lc lt ∧ BRc (stl A w lc lt (brk lc (st 2) (st 0)) (saf lc lt (st 2) (st 0))) w nb fr to ∧ WC (RSA (stl A w lc lt (brk lc (st 2) (st 0)) (saf lc lt (st 2) (st 0))) w (rnd lc lt nb fr to)) w lc lt nw nb fr to st ∧ ∀ k, k < w ∨ w + 10 < k → RSA (stl A w lc lt (brk lc (st 2) (st 0)) (saf lc lt (st 2) (st 0))) w (rnd lc lt nb fr to) k = A k := by
  obtain ⟨c1, c2, ⟨c3, c4⟩, c5, c6, c7⟩ := hC
  obtain ⟨br, hbr⟩ : ∃ br, br = brk lc (st 2) (st 0) := ⟨_, rfl⟩
  obtain ⟨sf, hsf⟩ : ∃ sf, sf = saf lc lt (st 2) (st 0) := ⟨_, rfl⟩
  rw [← hbr, ← hsf]
  obtain ⟨A1, hA1⟩ : ∃ A1, A1 = stl A w lc lt br sf := ⟨_, rfl⟩
  rw [← hA1]
  have q : ∀ k, k ≠ w → k ≠ w + 6 → k ≠ w + 7 → k ≠ w + 8 → k ≠ w + 9 → A1 k = A k := fun k k1 k2 k3 k4 k5 => by
    rw [hA1, stl, up_ne k5, up_ne k4, up_ne k3, up_ne k2, WA_ne k1]
  have q0 : A1 w = fL [A w 0, A w 1, A w 2, A w 3, A w 4, br, sf] := by
    rw [hA1, stl, up_ne (by omega), up_ne (by omega), up_ne (by omega), up_ne (by omega), WA_w]
  have q6 : A1 (w + 6) = mix 16 (letF lc lt sf) (A (w + 6)) := by
    rw [hA1, stl, up_ne (by omega), up_ne (by omega), up_ne (by omega), up_at]
  have q7 : A1 (w + 7) = mix 16 (dm lc lt br sf 16) (A (w + 7)) := by
    rw [hA1, stl, up_ne (by omega), up_ne (by omega), up_at]
  have q8 : A1 (w + 8) = mix 16 (sr lc lt sf (A w 3) 16) (A (w + 8)) := by
    rw [hA1, stl, up_ne (by omega), up_at]
  have q9 : A1 (w + 9) = mix 16 (sr lc lt sf (A w 4) 16) (A (w + 9)) := by
    rw [hA1, stl, up_at]
  have hCW : CW A1 w lc lt := fun k hk => by
    rw [q (w + 1) (by omega) (by omega) (by omega) (by omega) (by omega), q (w + 2) (by omega) (by omega) (by omega) (by omega) (by omega), q (w + 3) (by omega) (by omega) (by omega) (by omega) (by omega)]
    exact c1 k hk
  have hBR : BRc A1 w nb fr to := ⟨by rw [q0]; exact c3, fun j hj => by
    rw [q (w + 4) (by omega) (by omega) (by omega) (by omega) (by omega), q (w + 5) (by omega) (by omega) (by omega) (by omega) (by omega)]
    exact c4 j hj⟩
  refine ⟨hCW, hBR, ⟨CW_up (by omega) hCW, ⟨by rw [RSA_w (by omega)]; exact hBR.1, fun j hj => by rw [RSA_w (by omega), RSA_w (by omega)]; exact hBR.2 j hj⟩, ?_, ?_, ?_⟩, fun k hk => ?_⟩
  · rw [RSA_w (by omega), q0, ← hbr, ← hsf]
    exact ⟨c2, c5, c6, c7, rfl, rfl⟩
  · intro s hs'
    rw [RSA_w (by omega), RSA_w (by omega), RSA_w (by omega), RSA_w (by omega), q6, q7, q8, q9, ← hbr, ← hsf, c6, c7]
    simp only [mix, if_pos hs', and_self]
  · have : RSA A1 w (rnd lc lt nb fr to) (w + 10) = fL [nI (rnd lc lt nb fr to).1, (rnd lc lt nb fr to).2.1, (rnd lc lt nb fr to).2.2.1, (rnd lc lt nb fr to).2.2.2] := up_at
    rw [this]
    exact ⟨rfl, rfl, rfl, rfl⟩
  · rw [RSA_w (by omega)]
    exact q k (by omega) (by omega) (by omega) (by omega) (by omega)
theorem WC_settle (hw : w = 8 ∨ w = 19) (hC : CD A w lc lt nw nb fr to st) (hD : DF lc lt nw nb fr to st) : ∃ A1, evM 59 [.ref w] (G b u v A τ) = some (none, G b u v A1 τ) ∧ evM 28 [.ref (w + 10), .ref w] (G b u v A1 τ) = some (none, G b u v (RSA A1 w (rnd lc lt nb fr to)) τ) ∧ WC (RSA A1 w (rnd lc lt nb fr to)) w lc lt nw nb fr to st ∧ ∀ k, k < w ∨ w + 10 < k → RSA A1 w (rnd lc lt nb fr to) k = A k := by
  obtain ⟨h1, h2, h3, h4⟩ := WC_stl hC
  obtain ⟨c1, c2, ⟨c3, c4⟩, c5, c6, c7⟩ := hC
  have hs := W_settle (b := b) (u := u) (v := v) (τ := τ) hw c1 hD.1 (by rw [c5]; exact hD.2.2.2.1)
  rw [c5, c7] at hs
  exact ⟨_, hs, W_find hw h1 hD.1 hD.2.2.1 h2, h3, h4⟩
theorem x_worldN (h : b + w = 27) (hp : p < 2147483648) (hr : evM 22 [.ref 3, .ref w, .ref 1] (G b u v A τ) = some (some (.int (nI p)), G b u v B τ)) : evM 89 [.ref 0] (G b u v A τ) = some (some (.int (-10 - nI p)), G b u v B τ) := by
  simp (disch := first | omega | assumption | exact Nat.le_of_ble_eq_true rfl) only [m89, e89_0, e89_1, e89_4, e89_5, e89_8, e89_9, e89_12, e89_15i, e89_15n, e89_15r, e89_16, e89_17, e89_20, e89_22, e89_23, e89_24, Bool.false_eq_true, Bool.true_eq_false, gfK, pfK, lnK, isC, alK_n, asK_n, List.getElem?_cons_zero, List.getElem?_cons_succ, List.set_cons_zero, List.set_cons_succ, List.length_cons, List.length_nil, ↓reduceIte, if_true, if_false, eq_self, and_true, true_and, and_self, Option.bind_some, Option.bind_none, Option.toList_some, Option.toList_none, List.cons_append, List.nil_append, mset_at, mset_ne, mset_2, mset_mset, Nat.reduceLT, Nat.reduceAdd, Gb_0 h, G_3, hr, nI_not_neg]
theorem x_world (h : b + w = 27) (hw : w = 8 ∨ w = 19) (hr : evM 22 [.ref 3, .ref w, .ref 1] (G b u v A τ) = some (some (.int (-9)), G b u v B τ)) (hC : CD B w lc lt nw nb fr to st) (hD : DF lc lt nw nb fr to st) : ∃ A2, evM 89 [.ref 0] (G b u v A τ) = some (some (.int (nI nw)), G w u v A2 τ) ∧ WC A2 w lc lt nw nb fr to st ∧ A2 1 0 = 0 ∧ ∀ k, k ≠ 1 → (k < w ∨ w + 10 < k) → A2 k = B k := by
  obtain ⟨A1, h1, h2, h3, h4⟩ := WC_settle (b := w) (u := u) (v := v) (τ := τ) hw hC hD
  have hwb : w + b = 27 := by omega
  obtain ⟨A3, hA3⟩ : ∃ A3, A3 = RSA A1 w (rnd lc lt nb fr to) := ⟨_, rfl⟩
  rw [← hA3] at h2 h3 h4
  have c0 : (up A3 1 (fL [0])) w 0 = nI nw := by rw [up_ne (by omega)]; exact h3.2.2.1.1
  have n9 : (-9 : Int32) < 0 := by decide
  refine ⟨up A3 1 (fL [0]), ?_, ?_, by rw [up_at]; rfl, fun k k1 k2 => by rw [up_ne k1, h4 k k2]⟩
  · simp (disch := first | omega | assumption | exact Nat.le_of_ble_eq_true rfl) only [m89, e89_0, e89_1, e89_4, e89_5, e89_8, e89_9, e89_12, e89_15i, e89_15n, e89_15r, e89_16, e89_17, e89_20, e89_22, e89_23, e89_24, e89_25, e89_26, e89_29i, e89_29n, e89_29r, e89_30, e89_31, e89_32, e89_35, e89_38, e89_39, e89_40, Bool.false_eq_true, Bool.true_eq_false, gfK, pfK, lnK, isC, alK_n, asK_n, List.getElem?_cons_zero, List.getElem?_cons_succ, List.set_cons_zero, List.set_cons_succ, List.length_cons, List.length_nil, ↓reduceIte, if_true, if_false, eq_self, and_true, true_and, and_self, Option.bind_some, Option.bind_none, Option.toList_some, Option.toList_none, List.cons_append, List.nil_append, mset_at, mset_ne, mset_2, mset_mset, Nat.reduceLT, Nat.reduceAdd, Gb_0 h, G_3, hr, eq_true n9, Sb_0 h]
    simp (disch := first | omega | assumption | exact Nat.le_of_ble_eq_true rfl) only [m89, e89_43, e89_44, e89_47, e89_50, e89_51, e89_54, e89_57, e89_58, e89_61, e89_64, e89_65, e89_68, e89_69, e89_72, e89_73, e89_76, e89_79, Bool.false_eq_true, Bool.true_eq_false, gfK, pfK, lnK, isC, alK_n, asK_n, List.getElem?_cons_zero, List.getElem?_cons_succ, List.set_cons_zero, List.set_cons_succ, List.length_cons, List.length_nil, ↓reduceIte, if_true, if_false, eq_self, and_true, true_and, and_self, Option.bind_some, Option.bind_none, Option.toList_some, Option.toList_none, List.cons_append, List.nil_append, mset_at, mset_ne, mset_2, mset_mset, Nat.reduceLT, Nat.reduceAdd, Gb_0 hwb, h1, G_W0 hw, G_W10 hw, h2, G_1, S_1, c0]
  · obtain ⟨d1, ⟨d2, d3⟩, d4, d5, d6⟩ := h3
    refine ⟨CW_up (by omega) d1, ⟨by rw [up_ne (by omega)]; exact d2, fun j hj => by rw [up_ne (by omega), up_ne (by omega)]; exact d3 j hj⟩, by rw [up_ne (by omega)]; exact d4, fun s hs => by rw [up_ne (by omega), up_ne (by omega), up_ne (by omega), up_ne (by omega)]; exact d5 s hs, by rw [up_ne (by omega)]; exact d6⟩
end WEND
