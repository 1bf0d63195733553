/-! THE MODEL'S WORLD: dooms, judges. -/
/-- whether all of n numbers from d on -/
def allG (P : Nat → Bool) : Nat → Nat → Bool
  | _, 0 => true
  | d, n + 1 => P d && allG P (d + 1) n
theorem allG_t {P : Nat → Bool} : ∀ {n d : Nat}, allG P d n = true ↔ ∀ e, d ≤ e → e < d + n → P e = true
  | 0, d => ⟨fun _ e h1 h2 => absurd h2 (by omega), fun _ => rfl⟩
  | n + 1, d => by
    rw [allG, Bool.and_eq_true, allG_t]
    constructor
    · rintro ⟨h1, h2⟩ e h3 h4
      by_cases h : e = d
      · rw [h]; exact h1
      · exact h2 e (by omega) (by omega)
    · intro h
      exact ⟨h d (by omega) (by omega), fun e h1 h2 => h e (by omega) (by omega)⟩
theorem dm_keep {lc : Nat → Nat} {lt : Nat → Nat → Nat} {br sf : Int32} {r s : Nat} (h : ¬ dm lc lt br sf r s = -9) : dm lc lt br sf (r + 1) s = dm lc lt br sf r s := by
  rw [dm, if_neg (fun g => h g.2.1)]
theorem dm_new {lc : Nat → Nat} {lt : Nat → Nat → Nat} {br sf : Int32} {r s : Nat} (h : dm lc lt br sf r s = -9) : dm lc lt br sf (r + 1) s = -9 ∨ dm lc lt br sf (r + 1) s = nI (r + 1) := by
  rw [dm]
  split
  · exact Or.inr rfl
  · exact Or.inl h
section MJUDGES
variable {b : Nat} {u v : Int64} {A : Nat → Nat → Int32} {τ : Nat × Nat × Nat × (Nat → Int32)} {lc : Nat → Nat} {lt : Nat → Nat → Nat} {s d i r : Nat} {S br x y z : Int32} {σ : mS} {w0 : Int32} {l3 l4 l5 l6 l7 l8 : Option Value} {X : Nat → Int32}
theorem V_dm0 (f0 : Nat → Int32) : ∀ (n s : Nat), s + n = 16 → ev 138 172 [some (.ref 60), some (.int w0), some (.int (nI s)), l3, l4, l5, l6, l7, l8] [] (G b u v (up A 65 (mix s (dm lc lt (A 60 14) z 0) f0)) τ) = ev 138 208 [some (.ref 60), some (.int w0), some (.int (nI 16)), l3, l4, l5, l6, l7, l8] [] (G b u v (up A 65 (mix 16 (dm lc lt (A 60 14) z 0) f0)) τ)
  | 0, s, hs => by
    have : s = 16 := by omega
    subst this
    rw [e138_172]
    simp (disch := first | omega | assumption | exact Nat.le_of_ble_eq_true rfl) only [m138, e138_173, e138_175, Bool.false_eq_true, Bool.true_eq_false, gfK, pfK, lnK, isC, alK_n, asK_n, List.getElem?_cons_zero, List.getElem?_cons_succ, List.set_cons_zero, List.set_cons_succ, List.length_cons, List.length_nil, ↓reduceIte, if_true, if_false, eq_self, and_true, true_and, and_self, Option.bind_some, Option.bind_none, Option.toList_some, Option.toList_none, List.cons_append, List.nil_append, mset_at, mset_ne, mset_2, mset_mset, Nat.reduceLT, Nat.reduceAdd, le_16, Nat.le_refl]
  | n + 1, s, hs => by
    have ih := V_dm0 f0 n (s + 1) (by omega)
    have h16 : ¬ 16 ≤ s := by omega
    have h5 : up A 65 (mix s (dm lc lt (A 60 14) z 0) f0) 60 14 = A 60 14 := by rw [up_ne (by omega)]
    rw [← mix_succ] at ih
    rw [e138_172]
    by_cases h0 : bi (A 60 14) s = true
    · rw [show dm lc lt (A 60 14) z 0 s = 0 from by rw [dm, if_pos h0]] at ih
      simp (disch := first | omega | assumption | exact Nat.le_of_ble_eq_true rfl) only [m138, e138_173, e138_175, e138_178, e138_179, e138_182, e138_183, e138_184, e138_187, e138_188, e138_189, e138_190, e138_191, e138_192, e138_195, e138_196, e138_199, e138_201, e138_202i, e138_202n, e138_202r, e138_205, Bool.false_eq_true, Bool.true_eq_false, gfK, pfK, lnK, isC, alK_n, asK_n, List.getElem?_cons_zero, List.getElem?_cons_succ, List.set_cons_zero, List.set_cons_succ, List.length_cons, List.length_nil, ↓reduceIte, if_true, if_false, eq_self, and_true, true_and, and_self, Option.bind_some, Option.bind_none, Option.toList_some, Option.toList_none, List.cons_append, List.nil_append, mset_at, mset_ne, mset_2, mset_mset, Nat.reduceLT, Nat.reduceAdd, le_16, h16, G_60, G_65, S_65, h5, up_at, up_up, shr_1, h0, nI_succ', ih]
    · rw [show dm lc lt (A 60 14) z 0 s = -9 from by rw [dm, if_neg h0]] at ih
      simp (disch := first | omega | assumption | exact Nat.le_of_ble_eq_true rfl) only [m138, e138_173, e138_175, e138_178, e138_179, e138_182, e138_183, e138_184, e138_187, e138_188, e138_189, e138_190, e138_191, e138_192, e138_195, e138_196, e138_199, e138_201, e138_202i, e138_202n, e138_202r, e138_205, Bool.false_eq_true, Bool.true_eq_false, gfK, pfK, lnK, isC, alK_n, asK_n, List.getElem?_cons_zero, List.getElem?_cons_succ, List.set_cons_zero, List.set_cons_succ, List.length_cons, List.length_nil, ↓reduceIte, if_true, if_false, eq_self, and_true, true_and, and_self, Option.bind_some, Option.bind_none, Option.toList_some, Option.toList_none, List.cons_append, List.nil_append, mset_at, mset_ne, mset_2, mset_mset, Nat.reduceLT, Nat.reduceAdd, le_16, h16, G_60, G_65, S_65, h5, up_at, up_up, shr_1, h0, nI_succ', ih]
theorem V_fall_in (hC : MW A lc lt) (hW : WF lc lt) (hs : s < 16) (hd : d < 8) (hX : A 65 = X) {q : Nat → Bool} (hq1 : ∀ i, i < lc (s * 8 + d) → q i = true → ¬ X (lt (s * 8 + d) i) = -9 ∧ ¬ x ≤ X (lt (s * 8 + d) i)) (hq0 : ∀ i, i < lc (s * 8 + d) → q i = false → X (lt (s * 8 + d) i) = -9 ∨ x ≤ X (lt (s * 8 + d) i)) (a : Bool) : ∀ (n i : Nat) (l8 : Option Value), i + n = lc (s * 8 + d) → ∃ l8', ev 138 288 [some (.ref 60), some (.int w0), some (.int x), some (.int (nI s)), l4, some (.int (nI d)), some (.int (bI (a || anyF q i))), some (.int (nI i)), l8] [] (G b u v A τ) = ev 138 345 [some (.ref 60), some (.int w0), some (.int x), some (.int (nI s)), l4, some (.int (nI d)), some (.int (bI (a || anyF q (lc (s * 8 + d))))), some (.int (nI (lc (s * 8 + d)))), l8'] [] (G b u v A τ)
  | 0, i, l8, hi => by
    have h4 := (hW (s * 8 + d) (by omega)).1
    have hi : i = lc (s * 8 + d) := by omega
    refine ⟨l8, ?_⟩
    rw [e138_288]
    simp (disch := first | omega | assumption | exact Nat.le_of_ble_eq_true rfl) only [m138, e138_290, e138_291, e138_292, e138_294, e138_297, Bool.false_eq_true, Bool.true_eq_false, gfK, pfK, lnK, isC, alK_n, asK_n, List.getElem?_cons_zero, List.getElem?_cons_succ, List.set_cons_zero, List.set_cons_succ, List.length_cons, List.length_nil, ↓reduceIte, if_true, if_false, eq_self, and_true, true_and, and_self, Option.bind_some, Option.bind_none, Option.toList_some, Option.toList_none, List.cons_append, List.nil_append, mset_at, mset_ne, mset_2, mset_mset, Nat.reduceLT, Nat.reduceAdd, V_lots hC hs hd, nI_leI, Nat.le_refl, ← hi, G_60]
  | n + 1, i, l8, hi => by
    have h4 := hW (s * 8 + d) (by omega)
    have h4' := h4.1
    have h5 : ¬ lc (s * 8 + d) ≤ i := by omega
    have hi' : i < lc (s * 8 + d) := by omega
    have h6 := h4.2 i hi'
    obtain ⟨l8', ih⟩ := V_fall_in hC hW hs hd hX hq1 hq0 a n (i + 1) (some (.int (X (lt (s * 8 + d) i)))) (by omega)
    refine ⟨l8', ?_⟩
    rw [show (a || anyF q (i + 1)) = ((a || anyF q i) || q i) from by rw [anyF, Bool.or_assoc]] at ih
    have hgo := V_lotOf (b := b) (u := u) (v := v) (τ := τ) hC hW hs hd hi'
    rw [e138_288]
    by_cases hq : q i = true
    · obtain ⟨g1, g2⟩ := hq1 i hi' hq
      rw [hq, Bool.or_true] at ih
      simp (disch := first | omega | assumption | exact Nat.le_of_ble_eq_true rfl) only [m138, e138_290, e138_291, e138_292, e138_294, e138_297, e138_300, e138_301, e138_304, e138_305, e138_306, e138_308, e138_310, e138_313, e138_314i, e138_314n, e138_314r, e138_316, e138_318, e138_320, e138_322, e138_325, e138_327, e138_328, e138_331, e138_332, e138_335, e138_336, e138_337i, e138_337n, e138_337r, e138_339i, e138_339n, e138_339r, e138_342, Bool.false_eq_true, Bool.true_eq_false, gfK, pfK, lnK, isC, alK_n, asK_n, List.getElem?_cons_zero, List.getElem?_cons_succ, List.set_cons_zero, List.set_cons_succ, List.length_cons, List.length_nil, ↓reduceIte, if_true, if_false, eq_self, and_true, true_and, and_self, Option.bind_some, Option.bind_none, Option.toList_some, Option.toList_none, List.cons_append, List.nil_append, mset_at, mset_ne, mset_2, mset_mset, Nat.reduceLT, Nat.reduceAdd, V_lots hC hs hd, hgo, nI_leI, h5, G_60, G_65, hX, g1, g2, bI_or1, nI_succ', ih]
    · have hq' := Bool.eq_false_iff.2 hq
      rw [hq', Bool.or_false] at ih
      by_cases g1 : X (lt (s * 8 + d) i) = -9
      · rw [g1] at ih
        simp (disch := first | omega | assumption | exact Nat.le_of_ble_eq_true rfl) only [m138, e138_290, e138_291, e138_292, e138_294, e138_297, e138_300, e138_301, e138_304, e138_305, e138_306, e138_308, e138_310, e138_313, e138_314i, e138_314n, e138_314r, e138_316, e138_318, e138_320, e138_322, e138_325, e138_327, e138_328, e138_331, e138_332, e138_335, e138_336, e138_337i, e138_337n, e138_337r, e138_339i, e138_339n, e138_339r, e138_342, Bool.false_eq_true, Bool.true_eq_false, gfK, pfK, lnK, isC, alK_n, asK_n, List.getElem?_cons_zero, List.getElem?_cons_succ, List.set_cons_zero, List.set_cons_succ, List.length_cons, List.length_nil, ↓reduceIte, if_true, if_false, eq_self, and_true, true_and, and_self, Option.bind_some, Option.bind_none, Option.toList_some, Option.toList_none, List.cons_append, List.nil_append, mset_at, mset_ne, mset_2, mset_mset, Nat.reduceLT, Nat.reduceAdd, V_lots hC hs hd, hgo, nI_leI, h5, G_60, G_65, hX, g1, bI_or0, nI_succ', ih]
      · have g2 := (hq0 i hi' hq').resolve_left g1
        simp (disch := first | omega | assumption | exact Nat.le_of_ble_eq_true rfl) only [m138, e138_290, e138_291, e138_292, e138_294, e138_297, e138_300, e138_301, e138_304, e138_305, e138_306, e138_308, e138_310, e138_313, e138_314i, e138_314n, e138_314r, e138_316, e138_318, e138_320, e138_322, e138_325, e138_327, e138_328, e138_331, e138_332, e138_335, e138_336, e138_337i, e138_337n, e138_337r, e138_339i, e138_339n, e138_339r, e138_342, Bool.false_eq_true, Bool.true_eq_false, gfK, pfK, lnK, isC, alK_n, asK_n, List.getElem?_cons_zero, List.getElem?_cons_succ, List.set_cons_zero, List.set_cons_succ, List.length_cons, List.length_nil, ↓reduceIte, if_true, if_false, eq_self, and_true, true_and, and_self, Option.bind_some, Option.bind_none, Option.toList_some, Option.toList_none, List.cons_append, List.nil_append, mset_at, mset_ne, mset_2, mset_mset, Nat.reduceLT, Nat.reduceAdd, V_lots hC hs hd, hgo, nI_leI, h5, G_60, G_65, hX, g1, g2, bI_or0, nI_succ', ih]
theorem V_fall_d (hC : MW A lc lt) (hW : WF lc lt) (hs : s < 16) (hX : A 65 = X) {q : Nat → Nat → Bool} (hq1 : ∀ d, d < 8 → ∀ i, i < lc (s * 8 + d) → q d i = true → ¬ X (lt (s * 8 + d) i) = -9 ∧ ¬ x ≤ X (lt (s * 8 + d) i)) (hq0 : ∀ d, d < 8 → ∀ i, i < lc (s * 8 + d) → q d i = false → X (lt (s * 8 + d) i) = -9 ∨ x ≤ X (lt (s * 8 + d) i)) : ∀ (n d : Nat) (c : Bool) (l6 l7 l8 : Option Value), d + n = 8 → ∃ l5' l6' l7' l8', ev 138 256 [some (.ref 60), some (.int w0), some (.int x), some (.int (nI s)), some (.int (bI c)), some (.int (nI d)), l6, l7, l8] [] (G b u v A τ) = ev 138 355 [some (.ref 60), some (.int w0), some (.int x), some (.int (nI s)), some (.int (bI (c && allG (fun d => decide (lc (s * 8 + d) = 0) || anyF (q d) (lc (s * 8 + d))) d n))), l5', l6', l7', l8'] [] (G b u v A τ)
  | 0, d, c, l6, l7, l8, hd => by
    have : d = 8 := by omega
    subst this
    refine ⟨some (.int (nI 8)), l6, l7, l8, ?_⟩
    rw [e138_256]
    simp (disch := first | omega | assumption | exact Nat.le_of_ble_eq_true rfl) only [m138, e138_258, e138_260, Bool.false_eq_true, Bool.true_eq_false, gfK, pfK, lnK, isC, alK_n, asK_n, List.getElem?_cons_zero, List.getElem?_cons_succ, List.set_cons_zero, List.set_cons_succ, List.length_cons, List.length_nil, ↓reduceIte, if_true, if_false, eq_self, and_true, true_and, and_self, Option.bind_some, Option.bind_none, Option.toList_some, Option.toList_none, List.cons_append, List.nil_append, mset_at, mset_ne, mset_2, mset_mset, Nat.reduceLT, Nat.reduceAdd, le_8, Nat.le_refl, allG, Bool.and_true]
  | n + 1, d, false, l6, l7, l8, hd => by
    have h8 : ¬ 8 ≤ d := by omega
    refine ⟨some (.int (nI d)), l6, l7, l8, ?_⟩
    rw [e138_256]
    simp (disch := first | omega | assumption | exact Nat.le_of_ble_eq_true rfl) only [m138, e138_258, e138_260, e138_263, e138_265, Bool.false_eq_true, Bool.true_eq_false, gfK, pfK, lnK, isC, alK_n, asK_n, List.getElem?_cons_zero, List.getElem?_cons_succ, List.set_cons_zero, List.set_cons_succ, List.length_cons, List.length_nil, ↓reduceIte, if_true, if_false, eq_self, and_true, true_and, and_self, Option.bind_some, Option.bind_none, Option.toList_some, Option.toList_none, List.cons_append, List.nil_append, mset_at, mset_ne, mset_2, mset_mset, Nat.reduceLT, Nat.reduceAdd, le_8, h8, bI_f, Bool.false_and]
  | n + 1, d, true, l6, l7, l8, hd => by
    have h8 : ¬ 8 ≤ d := by omega
    have hd' : d < 8 := by omega
    have h4 := (hW (s * 8 + d) (by omega)).1
    obtain ⟨a, ha⟩ : ∃ a, a = decide (lc (s * 8 + d) = 0) := ⟨_, rfl⟩
    obtain ⟨l8', hin⟩ := V_fall_in (b := b) (u := u) (v := v) (τ := τ) (w0 := w0) (l4 := some (.int 1)) hC hW hs hd' hX (hq1 d hd') (hq0 d hd') a (lc (s * 8 + d)) 0 l8 (by omega)
    obtain ⟨m5, m6, m7, m8, ih⟩ := V_fall_d hC hW hs hX hq1 hq0 n (d + 1) (a || anyF (q d) (lc (s * 8 + d))) (some (.int (bI (a || anyF (q d) (lc (s * 8 + d)))))) (some (.int (nI (lc (s * 8 + d))))) l8' (by omega)
    refine ⟨m5, m6, m7, m8, ?_⟩
    rw [show anyF (q d) 0 = false from rfl, Bool.or_false, ← lit_0] at hin
    have e : (true && allG (fun d => decide (lc (s * 8 + d) = 0) || anyF (q d) (lc (s * 8 + d))) d (n + 1)) = ((a || anyF (q d) (lc (s * 8 + d))) && allG (fun d => decide (lc (s * 8 + d) = 0) || anyF (q d) (lc (s * 8 + d))) (d + 1) n) := by
      rw [Bool.true_and, allG, ha]
    rw [e]
    rw [e138_256]
    by_cases h0 : lc (s * 8 + d) = 0
    · have hb : bI a = 1 := by rw [ha, decide_eq_true h0]; rfl
      have hz : (nI (lc (s * 8 + d)) = 0) = True := eq_true (by rw [h0]; rfl)
      rw [hb] at hin
      simp (disch := first | omega | assumption | exact Nat.le_of_ble_eq_true rfl) only [m138, e138_258, e138_260, e138_263, e138_265, e138_268, e138_269, e138_270, e138_272, e138_275, e138_278, e138_279, e138_282, e138_283i, e138_283n, e138_283r, e138_285, e138_286i, e138_286n, e138_286r, Bool.false_eq_true, Bool.true_eq_false, gfK, pfK, lnK, isC, alK_n, asK_n, List.getElem?_cons_zero, List.getElem?_cons_succ, List.set_cons_zero, List.set_cons_succ, List.length_cons, List.length_nil, ↓reduceIte, if_true, if_false, eq_self, and_true, true_and, and_self, Option.bind_some, Option.bind_none, Option.toList_some, Option.toList_none, List.cons_append, List.nil_append, mset_at, mset_ne, mset_2, mset_mset, Nat.reduceLT, Nat.reduceAdd, le_8, h8, bI_t, nz1, G_60, V_lots hC hs, hz, hin]
      simp (disch := first | omega | assumption | exact Nat.le_of_ble_eq_true rfl) only [m138, e138_345, e138_347i, e138_347n, e138_347r, e138_349i, e138_349n, e138_349r, e138_352, Bool.false_eq_true, Bool.true_eq_false, gfK, pfK, lnK, isC, alK_n, asK_n, List.getElem?_cons_zero, List.getElem?_cons_succ, List.set_cons_zero, List.set_cons_succ, List.length_cons, List.length_nil, ↓reduceIte, if_true, if_false, eq_self, and_true, true_and, and_self, Option.bind_some, Option.bind_none, Option.toList_some, Option.toList_none, List.cons_append, List.nil_append, mset_at, mset_ne, mset_2, mset_mset, Nat.reduceLT, Nat.reduceAdd, nI_succ', ih]
    · have hb : bI a = 0 := by rw [ha, decide_eq_false h0]; rfl
      have hz : (nI (lc (s * 8 + d)) = 0) = False := eq_false (fun g => h0 (nI_inj (by omega) (by omega) g))
      rw [hb] at hin
      simp (disch := first | omega | assumption | exact Nat.le_of_ble_eq_true rfl) only [m138, e138_258, e138_260, e138_263, e138_265, e138_268, e138_269, e138_270, e138_272, e138_275, e138_278, e138_279, e138_282, e138_283i, e138_283n, e138_283r, e138_285, e138_286i, e138_286n, e138_286r, Bool.false_eq_true, Bool.true_eq_false, gfK, pfK, lnK, isC, alK_n, asK_n, List.getElem?_cons_zero, List.getElem?_cons_succ, List.set_cons_zero, List.set_cons_succ, List.length_cons, List.length_nil, ↓reduceIte, if_true, if_false, eq_self, and_true, true_and, and_self, Option.bind_some, Option.bind_none, Option.toList_some, Option.toList_none, List.cons_append, List.nil_append, mset_at, mset_ne, mset_2, mset_mset, Nat.reduceLT, Nat.reduceAdd, le_8, h8, bI_t, nz1, G_60, V_lots hC hs, hz, hin]
      simp (disch := first | omega | assumption | exact Nat.le_of_ble_eq_true rfl) only [m138, e138_345, e138_347i, e138_347n, e138_347r, e138_349i, e138_349n, e138_349r, e138_352, Bool.false_eq_true, Bool.true_eq_false, gfK, pfK, lnK, isC, alK_n, asK_n, List.getElem?_cons_zero, List.getElem?_cons_succ, List.set_cons_zero, List.set_cons_succ, List.length_cons, List.length_nil, ↓reduceIte, if_true, if_false, eq_self, and_true, true_and, and_self, Option.bind_some, Option.bind_none, Option.toList_some, Option.toList_none, List.cons_append, List.nil_append, mset_at, mset_ne, mset_2, mset_mset, Nat.reduceLT, Nat.reduceAdd, nI_succ', ih]
theorem cur_q (hW : WF lc lt) {br sf : Int32} {f0 : Nat → Int32} {t : Nat} (ht : t < 16) (hr : r < 100) : (¬ dm lc lt br sf r t = -9 → ¬ mix s (dm lc lt br sf (r + 1)) (mix 16 (dm lc lt br sf r) f0) t = -9 ∧ ¬ nI (r + 1) ≤ mix s (dm lc lt br sf (r + 1)) (mix 16 (dm lc lt br sf r) f0) t) ∧ (dm lc lt br sf r t = -9 → mix s (dm lc lt br sf (r + 1)) (mix 16 (dm lc lt br sf r) f0) t = -9 ∨ nI (r + 1) ≤ mix s (dm lc lt br sf (r + 1)) (mix 16 (dm lc lt br sf r) f0) t) := by
  constructor
  · intro h
    have e : mix s (dm lc lt br sf (r + 1)) (mix 16 (dm lc lt br sf r) f0) t = dm lc lt br sf r t := by
      by_cases h1 : t < s
      · rw [mix_lt h1, dm_keep h]
      · rw [mix_ge h1, mix_lt ht]
    rw [e]
    refine ⟨h, ?_⟩
    obtain ⟨k, hk, e2⟩ := (dm_val r t).resolve_left h
    rw [e2, nI_leI (by omega) (by omega)]
    omega
  · intro h
    by_cases h1 : t < s
    · rw [mix_lt h1]
      rcases dm_new h with g | g
      · exact Or.inl g
      · rw [g]
        exact Or.inr ((nI_leI (by omega) (by omega)).2 (Nat.le_refl _))
    · rw [mix_ge h1, mix_lt ht]
      exact Or.inl h
theorem V_dm_in (hC : MW A lc lt) (hW : WF lc lt) (hr : r < 100) (f0 : Nat → Int32) : ∀ (n s : Nat) (l4 l5 l6 l7 l8 : Option Value), s + n = 16 → ∃ l4' l5' l6' l7' l8', ev 138 218 [some (.ref 60), some (.int w0), some (.int (nI (r + 1))), some (.int (nI s)), l4, l5, l6, l7, l8] [] (G b u v (up A 65 (mix s (dm lc lt (A 60 14) (A 60 15) (r + 1)) (mix 16 (dm lc lt (A 60 14) (A 60 15) r) f0))) τ) = ev 138 382 [some (.ref 60), some (.int w0), some (.int (nI (r + 1))), some (.int (nI 16)), l4', l5', l6', l7', l8'] [] (G b u v (up A 65 (mix 16 (dm lc lt (A 60 14) (A 60 15) (r + 1)) (mix 16 (dm lc lt (A 60 14) (A 60 15) r) f0))) τ)
  | 0, s, l4, l5, l6, l7, l8, hs => by
    have : s = 16 := by omega
    subst this
    refine ⟨l4, l5, l6, l7, l8, ?_⟩
    rw [e138_218]
    simp (disch := first | omega | assumption | exact Nat.le_of_ble_eq_true rfl) only [m138, e138_219, e138_221, Bool.false_eq_true, Bool.true_eq_false, gfK, pfK, lnK, isC, alK_n, asK_n, List.getElem?_cons_zero, List.getElem?_cons_succ, List.set_cons_zero, List.set_cons_succ, List.length_cons, List.length_nil, ↓reduceIte, if_true, if_false, eq_self, and_true, true_and, and_self, Option.bind_some, Option.bind_none, Option.toList_some, Option.toList_none, List.cons_append, List.nil_append, mset_at, mset_ne, mset_2, mset_mset, Nat.reduceLT, Nat.reduceAdd, le_16, Nat.le_refl]
  | n + 1, s, l4, l5, l6, l7, l8, hs => by
    have h16 : ¬ 16 ≤ s := by omega
    have hs' : s < 16 := by omega
    obtain ⟨D, hD⟩ : ∃ D, D = dm lc lt (A 60 14) (A 60 15) r := ⟨_, rfl⟩
    obtain ⟨D1, hD1⟩ : ∃ D1, D1 = dm lc lt (A 60 14) (A 60 15) (r + 1) := ⟨_, rfl⟩
    obtain ⟨X, hX⟩ : ∃ X, X = mix s D1 (mix 16 D f0) := ⟨_, rfl⟩
    have hXs : X s = D s := by rw [hX, mix_ge (by omega), mix_lt hs']
    have h15 : up A 65 X 60 15 = A 60 15 := by rw [up_ne (by omega)]
    obtain ⟨l5', l6', l7', l8', hd⟩ := V_fall_d (b := b) (u := u) (v := v) (τ := τ) (w0 := w0) (x := nI (r + 1)) (A := up A 65 X) (X := X) (s := s) (MW_up (by omega) hC) hW hs' up_at (q := fun d i => decide (¬ D (lt (s * 8 + d) i) = -9)) (fun d hd i hi h => by
      have := (cur_q (lc := lc) (lt := lt) (br := A 60 14) (sf := A 60 15) (r := r) (s := s) (f0 := f0) hW ((hW (s * 8 + d) (by omega)).2 i hi) hr).1 (by rw [← hD]; exact of_decide_eq_true h)
      rw [hX, hD, hD1]
      exact this) (fun d hd i hi h => by
      have := (cur_q (lc := lc) (lt := lt) (br := A 60 14) (sf := A 60 15) (r := r) (s := s) (f0 := f0) hW ((hW (s * 8 + d) (by omega)).2 i hi) hr).2 (by rw [← hD]; exact Decidable.not_not.1 (of_decide_eq_false h))
      rw [hX, hD, hD1]
      exact this) 8 0 (decide (bi (A 60 15) s = false ∧ D s = -9)) l6 l7 l8 rfl
    obtain ⟨c, hc⟩ : ∃ c, c = (decide (bi (A 60 15) s = false ∧ D s = -9) && allG (fun d => decide (lc (s * 8 + d) = 0) || anyF (fun i => decide (¬ D (lt (s * 8 + d) i) = -9)) (lc (s * 8 + d))) 0 8) := ⟨_, rfl⟩
    rw [← hc, ← lit_0] at hd
    obtain ⟨m4, m5, m6, m7, m8, ih⟩ := V_dm_in hC hW hr f0 n (s + 1) (some (.int (bI c))) l5' l6' l7' l8' (by omega)
    refine ⟨m4, m5, m6, m7, m8, ?_⟩
    rw [← hD, ← hD1] at ih ⊢
    rw [← mix_succ, ← hX] at ih
    rw [← hX]
    have hcv : D1 s = if c = true then nI (r + 1) else D s := by
      rw [hD1, dm, ← hD]
      by_cases g : c = true
      · rw [if_pos g, if_pos]
        rw [hc, Bool.and_eq_true, decide_eq_true_eq, allG_t] at g
        refine ⟨g.1.1, g.1.2, fun d hd => ?_⟩
        have := g.2 d (by omega) (by omega)
        rw [Bool.or_eq_true, decide_eq_true_eq, anyF_t] at this
        rcases this with h | ⟨i, hi, h⟩
        · exact Or.inl h
        · exact Or.inr ⟨i, hi, of_decide_eq_true h⟩
      · rw [if_neg g, if_neg]
        intro h
        refine g ?_
        rw [hc, Bool.and_eq_true, decide_eq_true_eq, allG_t]
        refine ⟨⟨h.1, h.2.1⟩, fun d h1 h2 => ?_⟩
        rw [Bool.or_eq_true, decide_eq_true_eq, anyF_t]
        rcases h.2.2 d (by omega) with h | ⟨i, hi, h⟩
        · exact Or.inl h
        · exact Or.inr ⟨i, hi, decide_eq_true h⟩
    rw [hcv] at ih
    have hfin : ev 138 355 [some (.ref 60), some (.int w0), some (.int (nI (r + 1))), some (.int (nI s)), some (.int (bI c)), l5', l6', l7', l8'] [] (G b u v (up A 65 X) τ) = ev 138 382 [some (.ref 60), some (.int w0), some (.int (nI (r + 1))), some (.int (nI 16)), m4, m5, m6, m7, m8] [] (G b u v (up A 65 (mix 16 D1 (mix 16 D f0))) τ) := by
      by_cases g : c = true
      · rw [g, if_pos rfl, bI_t] at ih
        rw [g]
        simp (disch := first | omega | assumption | exact Nat.le_of_ble_eq_true rfl) only [m138, e138_355, e138_356, e138_359, e138_360, e138_362, e138_365, e138_366, e138_369, e138_370, e138_373, e138_374, e138_375, e138_376i, e138_376n, e138_376r, e138_379, Bool.false_eq_true, Bool.true_eq_false, gfK, pfK, lnK, isC, alK_n, asK_n, List.getElem?_cons_zero, List.getElem?_cons_succ, List.set_cons_zero, List.set_cons_succ, List.length_cons, List.length_nil, ↓reduceIte, if_true, if_false, eq_self, and_true, true_and, and_self, Option.bind_some, Option.bind_none, Option.toList_some, Option.toList_none, List.cons_append, List.nil_append, mset_at, mset_ne, mset_2, mset_mset, Nat.reduceLT, Nat.reduceAdd, G_60, G_65, S_65, up_at, up_up, bI_eq0, Bool.true_eq_false, bI_t, nz1, nI_succ', ih]
      · have g' := Bool.eq_false_iff.2 g
        rw [g', if_neg Bool.false_ne_true, bI_f] at ih
        rw [g']
        simp (disch := first | omega | assumption | exact Nat.le_of_ble_eq_true rfl) only [m138, e138_355, e138_356, e138_359, e138_360, e138_362, e138_365, e138_366, e138_369, e138_370, e138_373, e138_374, e138_375, e138_376i, e138_376n, e138_376r, e138_379, Bool.false_eq_true, Bool.true_eq_false, gfK, pfK, lnK, isC, alK_n, asK_n, List.getElem?_cons_zero, List.getElem?_cons_succ, List.set_cons_zero, List.set_cons_succ, List.length_cons, List.length_nil, ↓reduceIte, if_true, if_false, eq_self, and_true, true_and, and_self, Option.bind_some, Option.bind_none, Option.toList_some, Option.toList_none, List.cons_append, List.nil_append, mset_at, mset_ne, mset_2, mset_mset, Nat.reduceLT, Nat.reduceAdd, G_60, G_65, S_65, up_at, up_up, bI_f, hXs, nI_succ', ih]
    have hb15 : ∀ p : Bool, bI (decide (bi (A 60 15) s = false ∧ D s = -9)) = bI (decide (bi (A 60 15) s = false ∧ D s = -9)) := fun _ => rfl
    rw [e138_218]
    by_cases h1 : bi (A 60 15) s = false
    · by_cases h2 : D s = -9
      · rw [decide_eq_true (And.intro h1 h2), bI_t] at hd
        simp (disch := first | omega | assumption | exact Nat.le_of_ble_eq_true rfl) only [m138, e138_219, e138_221, e138_224, e138_225, e138_228, e138_229, e138_230, e138_231, e138_232, e138_235, e138_236, e138_239, e138_240, e138_241, e138_243, e138_246, e138_247, e138_250, e138_251i, e138_251n, e138_251r, e138_253, e138_254i, e138_254n, e138_254r, Bool.false_eq_true, Bool.true_eq_false, gfK, pfK, lnK, isC, alK_n, asK_n, List.getElem?_cons_zero, List.getElem?_cons_succ, List.set_cons_zero, List.set_cons_succ, List.length_cons, List.length_nil, ↓reduceIte, if_true, if_false, eq_self, and_true, true_and, and_self, Option.bind_some, Option.bind_none, Option.toList_some, Option.toList_none, List.cons_append, List.nil_append, mset_at, mset_ne, mset_2, mset_mset, Nat.reduceLT, Nat.reduceAdd, le_16, h16, G_60, G_65, h15, up_at, shr_0, h1, hXs, h2, hd, hfin]
      · rw [decide_eq_false (fun g => h2 g.2), bI_f] at hd
        simp (disch := first | omega | assumption | exact Nat.le_of_ble_eq_true rfl) only [m138, e138_219, e138_221, e138_224, e138_225, e138_228, e138_229, e138_230, e138_231, e138_232, e138_235, e138_236, e138_239, e138_240, e138_241, e138_243, e138_246, e138_247, e138_250, e138_251i, e138_251n, e138_251r, e138_253, e138_254i, e138_254n, e138_254r, Bool.false_eq_true, Bool.true_eq_false, gfK, pfK, lnK, isC, alK_n, asK_n, List.getElem?_cons_zero, List.getElem?_cons_succ, List.set_cons_zero, List.set_cons_succ, List.length_cons, List.length_nil, ↓reduceIte, if_true, if_false, eq_self, and_true, true_and, and_self, Option.bind_some, Option.bind_none, Option.toList_some, Option.toList_none, List.cons_append, List.nil_append, mset_at, mset_ne, mset_2, mset_mset, Nat.reduceLT, Nat.reduceAdd, le_16, h16, G_60, G_65, h15, up_at, shr_0, h1, hXs, h2, hd, hfin]
    · rw [decide_eq_false (fun g => h1 g.1), bI_f] at hd
      simp (disch := first | omega | assumption | exact Nat.le_of_ble_eq_true rfl) only [m138, e138_219, e138_221, e138_224, e138_225, e138_228, e138_229, e138_230, e138_231, e138_232, e138_235, e138_236, e138_239, e138_240, e138_241, e138_243, e138_246, e138_247, e138_250, e138_251i, e138_251n, e138_251r, e138_253, e138_254i, e138_254n, e138_254r, Bool.false_eq_true, Bool.true_eq_false, gfK, pfK, lnK, isC, alK_n, asK_n, List.getElem?_cons_zero, List.getElem?_cons_succ, List.set_cons_zero, List.set_cons_succ, List.length_cons, List.length_nil, ↓reduceIte, if_true, if_false, eq_self, and_true, true_and, and_self, Option.bind_some, Option.bind_none, Option.toList_some, Option.toList_none, List.cons_append, List.nil_append, mset_at, mset_ne, mset_2, mset_mset, Nat.reduceLT, Nat.reduceAdd, le_16, h16, G_60, G_65, h15, up_at, shr_0, h1, hd, hfin]
theorem le_17 {i : Nat} (h : i < 2147483648) : ((17 : Int32) ≤ nI i) = (17 ≤ i) := propext (nI_leI (a := 17) (by decide) h)
theorem V_dm_out (hC : MW A lc lt) (hW : WF lc lt) (f0 : Nat → Int32) : ∀ (n r : Nat) (l3 l4 l5 l6 l7 l8 : Option Value), r + n = 16 → ev 138 210 [some (.ref 60), some (.int w0), some (.int (nI (r + 1))), l3, l4, l5, l6, l7, l8] [] (G b u v (up A 65 (mix 16 (dm lc lt (A 60 14) (A 60 15) r) f0)) τ) = some (none, G b u v (up A 65 (mix 16 (dm lc lt (A 60 14) (A 60 15) 16) f0)) τ)
  | 0, r, l3, l4, l5, l6, l7, l8, hr => by
    have : r = 16 := by omega
    subst this
    rw [e138_210]
    simp (disch := first | omega | assumption | exact Nat.le_of_ble_eq_true rfl) only [m138, e138_211, e138_213, Bool.false_eq_true, Bool.true_eq_false, gfK, pfK, lnK, isC, alK_n, asK_n, List.getElem?_cons_zero, List.getElem?_cons_succ, List.set_cons_zero, List.set_cons_succ, List.length_cons, List.length_nil, ↓reduceIte, if_true, if_false, eq_self, and_true, true_and, and_self, Option.bind_some, Option.bind_none, Option.toList_some, Option.toList_none, List.cons_append, List.nil_append, mset_at, mset_ne, mset_2, mset_mset, Nat.reduceLT, Nat.reduceAdd, le_17, Nat.le_refl, Nat.reduceAdd, e138_388]
  | n + 1, r, l3, l4, l5, l6, l7, l8, hr => by
    have h17 : ¬ 17 ≤ r + 1 := by omega
    obtain ⟨l4', l5', l6', l7', l8', hin⟩ := V_dm_in (b := b) (u := u) (v := v) (τ := τ) (w0 := w0) (r := r) hC hW (by omega) f0 16 0 l4 l5 l6 l7 l8 rfl
    have ih := V_dm_out hC hW f0 n (r + 1) (some (.int (nI 16))) l4' l5' l6' l7' l8' (by omega)
    rw [mix_0, mix_mix, ← lit_0] at hin
    rw [e138_210]
    simp (disch := first | omega | assumption | exact Nat.le_of_ble_eq_true rfl) only [m138, e138_211, e138_213, e138_216, e138_217i, e138_217n, e138_217r, Bool.false_eq_true, Bool.true_eq_false, gfK, pfK, lnK, isC, alK_n, asK_n, List.getElem?_cons_zero, List.getElem?_cons_succ, List.set_cons_zero, List.set_cons_succ, List.length_cons, List.length_nil, ↓reduceIte, if_true, if_false, eq_self, and_true, true_and, and_self, Option.bind_some, Option.bind_none, Option.toList_some, Option.toList_none, List.cons_append, List.nil_append, mset_at, mset_ne, mset_2, mset_mset, Nat.reduceLT, Nat.reduceAdd, le_17, h17, hin]
    simp (disch := first | omega | assumption | exact Nat.le_of_ble_eq_true rfl) only [m138, e138_382i, e138_382n, e138_382r, e138_385, Bool.false_eq_true, Bool.true_eq_false, gfK, pfK, lnK, isC, alK_n, asK_n, List.getElem?_cons_zero, List.getElem?_cons_succ, List.set_cons_zero, List.set_cons_succ, List.length_cons, List.length_nil, ↓reduceIte, if_true, if_false, eq_self, and_true, true_and, and_self, Option.bind_some, Option.bind_none, Option.toList_some, Option.toList_none, List.cons_append, List.nil_append, mset_at, mset_ne, mset_2, mset_mset, Nat.reduceLT, Nat.reduceAdd, nI_succ', ih]
theorem thn_0 {rest : Int32} : thn lc lt rest 0 = 0 := (orF_0 (by omega)).2 fun j _ => by rw [bi_0, Bool.false_and]
theorem cntF_le16 (P : Nat → Bool) : cntF P 16 ≤ 16 := cntF_le P 16
/-- the numbers behind judges -/
def jud (A : Nat → Nat → Int32) (lc : Nat → Nat) (lt : Nat → Nat → Nat) (br sf : Int32) : Nat → Nat → Int32 := up (JG A br sf) 65 (mix 16 (dm lc lt br sf 16) (A 65))
theorem V_judges (hC : MW A lc lt) (hW : WF lc lt) (hn : S16 (A 60 8)) : evM 138 [.ref 60] (G b u v A τ) = some (none, G b u v (jud A lc lt (brk lc (A 60 10) (A 60 8)) (saf lc lt (A 60 10) (A 60 8))) τ) := by
  have h1 := V_brk_loop (b := b) (u := u) (v := v) (τ := τ) (x := A 60 8) (S := A 60 15) (l2 := none) (l3 := none) (l4 := none) (l5 := none) (l6 := none) (l7 := none) (l8 := none) hC hW 16 0 rfl
  rw [show orF (fun s => !bi (A 60 10) s && !anyF (fun d => decide (0 < lc (s * 8 + d))) 8) 0 (A 60 8) = A 60 8 from rfl, ← lit_0] at h1
  obtain ⟨br, hbr⟩ : ∃ br, br = brk lc (A 60 10) (A 60 8) := ⟨_, rfl⟩
  obtain ⟨sf, hsf⟩ : ∃ sf, sf = saf lc lt (A 60 10) (A 60 8) := ⟨_, rfl⟩
  have hs0 : S16 (65535 &&& (br ^^^ -1)) := s16_and s16_all
  obtain ⟨y, l2, l3, l4, h2⟩ := V_safe_loop (b := b) (u := u) (v := v) (τ := τ) (br := br) (l5 := none) (l6 := none) (l7 := none) (l8 := none) hC hW 16 (65535 &&& (br ^^^ -1)) 0 none none none hs0 (cntF_le16 _) (fun g => by rw [← g, thn_0])
  rw [show itr (thn lc lt (A 60 10)) 16 (65535 &&& (br ^^^ -1)) = sf from by rw [hsf, hbr]; rfl] at h2
  rw [← hbr] at h1
  rw [← hbr, ← hsf]
  have h3 := V_dm0 (b := b) (u := u) (v := v) (τ := τ) (A := JG A br sf) (lc := lc) (lt := lt) (z := sf) (w0 := y) (l3 := l3) (l4 := l4) (l5 := none) (l6 := none) (l7 := none) (l8 := none) (A 65) 16 0 rfl
  rw [mix_0, ← JG_ne (A := A) (br := br) (S := sf) (k := 65) (by omega), up_same, ← lit_0] at h3
  have h4 := V_dm_out (b := b) (u := u) (v := v) (τ := τ) (A := JG A br sf) (w0 := y) (MW_up (by omega) hC) hW (A 65) 16 0 l3 l4 none none none none rfl
  have e14 : JG A br sf 60 14 = br := rfl
  have e15 : JG A br sf 60 15 = sf := rfl
  rw [e14] at h3
  rw [e14, e15, show nI (0 + 1) = 1 from rfl, ← JG_ne (A := A) (br := br) (S := sf) (k := 65) (by omega)] at h4
  have e5 : up (JG A br sf) 65 (mix 16 (dm lc lt br sf 16) (JG A br sf 65)) = jud A lc lt br sf := by
    rw [JG_ne (by omega)]
    rfl
  rw [e5] at h4
  simp (disch := first | omega | assumption | exact Nat.le_of_ble_eq_true rfl) only [m138, e138_0, e138_1, e138_2, e138_5, e138_8, e138_9i, e138_9n, e138_9r, Bool.false_eq_true, Bool.true_eq_false, gfK, pfK, lnK, isC, alK_n, asK_n, List.getElem?_cons_zero, List.getElem?_cons_succ, List.set_cons_zero, List.set_cons_succ, List.length_cons, List.length_nil, ↓reduceIte, if_true, if_false, eq_self, and_true, true_and, and_self, Option.bind_some, Option.bind_none, Option.toList_some, Option.toList_none, List.cons_append, List.nil_append, mset_at, mset_ne, mset_2, mset_mset, Nat.reduceLT, Nat.reduceAdd, G_60, S_JG0, h1]
  simp (disch := first | omega | assumption | exact Nat.le_of_ble_eq_true rfl) only [m138, e138_57, e138_58, e138_60, e138_61, e138_64, e138_65, e138_66, e138_67, e138_70, e138_71i, e138_71n, e138_71r, Bool.false_eq_true, Bool.true_eq_false, gfK, pfK, lnK, isC, alK_n, asK_n, List.getElem?_cons_zero, List.getElem?_cons_succ, List.set_cons_zero, List.set_cons_succ, List.length_cons, List.length_nil, ↓reduceIte, if_true, if_false, eq_self, and_true, true_and, and_self, Option.bind_some, Option.bind_none, Option.toList_some, Option.toList_none, List.cons_append, List.nil_append, mset_at, mset_ne, mset_2, mset_mset, Nat.reduceLT, Nat.reduceAdd, G_JG, S_JG, h2]
  simp (disch := first | omega | assumption | exact Nat.le_of_ble_eq_true rfl) only [m138, e138_170, e138_171i, e138_171n, e138_171r, Bool.false_eq_true, Bool.true_eq_false, gfK, pfK, lnK, isC, alK_n, asK_n, List.getElem?_cons_zero, List.getElem?_cons_succ, List.set_cons_zero, List.set_cons_succ, List.length_cons, List.length_nil, ↓reduceIte, if_true, if_false, eq_self, and_true, true_and, and_self, Option.bind_some, Option.bind_none, Option.toList_some, Option.toList_none, List.cons_append, List.nil_append, mset_at, mset_ne, mset_2, mset_mset, Nat.reduceLT, Nat.reduceAdd, h3]
  simp (disch := first | omega | assumption | exact Nat.le_of_ble_eq_true rfl) only [m138, e138_208, e138_209i, e138_209n, e138_209r, Bool.false_eq_true, Bool.true_eq_false, gfK, pfK, lnK, isC, alK_n, asK_n, List.getElem?_cons_zero, List.getElem?_cons_succ, List.set_cons_zero, List.set_cons_succ, List.length_cons, List.length_nil, ↓reduceIte, if_true, if_false, eq_self, and_true, true_and, and_self, Option.bind_some, Option.bind_none, Option.toList_some, Option.toList_none, List.cons_append, List.nil_append, mset_at, mset_ne, mset_2, mset_mset, Nat.reduceLT, Nat.reduceAdd, h4]
end MJUDGES
