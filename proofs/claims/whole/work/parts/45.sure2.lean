/-! SURE on both sides: rounds, first doing, the call. -/
section SURE2
variable {b : Nat} {u v : Int64} {A : Nat → Nat → Int32} {τ : Nat × Nat × Nat × (Nat → Int32)} {lc : Nat → Nat} {lt : Nat → Nat → Nat} {s d i q r k : Nat} {S sf T x y z w0 : Int32} {σ : mS} {X f0 : Nat → Int32} {l5 l6 l7 l8 l9 : Option Value}
theorem V_sure_v (hC : MW A lc lt) (hW : WF lc lt) (hr : r < 16) (f0 : Nat → Int32) : ∀ (n s : Nat) (l7 l8 l9 : Option Value), s + n = 16 → ∃ l7' l8' l9', ev 168 112 [some (.ref 60), some (.int x), some (.int y), some (.int z), some (.int T), some (.int (nI (r + 1))), some (.int (nI s)), l7, l8, l9] [] (G b u v (up A 66 (mix s (sr lc lt (A 60 15) T (r + 1)) (mix 16 (sr lc lt (A 60 15) T r) f0))) τ) = ev 168 230 [some (.ref 60), some (.int x), some (.int y), some (.int z), some (.int T), some (.int (nI (r + 1))), some (.int (nI 16)), l7', l8', l9'] [] (G b u v (up A 66 (mix 16 (sr lc lt (A 60 15) T (r + 1)) (mix 16 (sr lc lt (A 60 15) T r) f0))) τ)
  | 0, s, l7, l8, l9, hs => by
    have : s = 16 := by omega
    subst this
    refine ⟨l7, l8, l9, ?_⟩
    rw [e168_112]
    simp (disch := first | omega | assumption | exact Nat.le_of_ble_eq_true rfl) only [m168, e168_114, e168_116, Bool.false_eq_true, Bool.true_eq_false, gfK, pfK, lnK, isC, alK_n, asK_n, List.getElem?_cons_zero, List.getElem?_cons_succ, List.set_cons_zero, List.set_cons_succ, List.length_cons, List.length_nil, ↓reduceIte, if_true, if_false, eq_self, and_true, true_and, and_self, Option.bind_some, Option.bind_none, Option.toList_some, Option.toList_none, List.cons_append, List.nil_append, mset_at, mset_ne, mset_2, mset_mset, Nat.reduceLT, Nat.reduceAdd, le_16, Nat.le_refl]
  | n + 1, s, l7, l8, l9, hs => by
    have h16 : ¬ 16 ≤ s := by omega
    have hs' : s < 16 := by omega
    obtain ⟨R, hR⟩ : ∃ R, R = sr lc lt (A 60 15) T r := ⟨_, rfl⟩
    obtain ⟨R1, hR1⟩ : ∃ R1, R1 = sr lc lt (A 60 15) T (r + 1) := ⟨_, rfl⟩
    obtain ⟨X, hX⟩ : ∃ X, X = mix s R1 (mix 16 R f0) := ⟨_, rfl⟩
    have hXs : X s = R s := by rw [hX, mix_ge (by omega), mix_lt hs']
    by_cases h0 : R s = -9
    · obtain ⟨Q, hQ⟩ : ∃ Q : Nat → Bool, Q = fun d => letP lc lt (A 60 15) s d && decide (¬ sof lc lt X (s * 8 + d) = -9 ∧ ¬ nI (r + 1) ≤ sof lc lt X (s * 8 + d)) := ⟨_, rfl⟩
      obtain ⟨l9', hd⟩ := V_sure_d (b := b) (u := u) (v := v) (τ := τ) (A := up A 66 X) (X := X) (x := x) (y := y) (z := z) (T := T) (w0 := nI (r + 1)) (s := s) (MW_up (by omega) hC) hW hs' up_at (fun t ht => by rw [hX, hR, hR1]; exact scur_v hr t ht) (hXs.trans h0) (Q := Q) (fun d hd => by rw [hQ, up_ne (by omega)]) 8 0 l9 rfl
      rw [anyF_0, bI_f, ← lit_0] at hd
      obtain ⟨m7, m8, m9, ih⟩ := V_sure_v hC hW hr f0 n (s + 1) (some (.int (bI (anyF Q 8)))) (some (.int (nI 8))) l9' (by omega)
      refine ⟨m7, m8, m9, ?_⟩
      rw [← hR, ← hR1] at ih ⊢
      rw [← mix_succ, ← hX] at ih
      rw [← hX]
      have hcv : R1 s = if anyF Q 8 = true then nI (r + 1) else R s := by
        rw [hR1, sr, ← hR]
        by_cases g : anyF Q 8 = true
        · rw [if_pos g, if_pos]
          obtain ⟨d, hd8, g1⟩ := anyF_t.1 g
          rw [hQ] at g1
          have g1 := (Bool.and_eq_true _ _).mp g1
          have g2 := (Bool.and_eq_true _ _).mp g1.1
          refine ⟨g2.1, h0, d, hd8, ((sty_t hW (by omega)).1 g2.2).1, ?_⟩
          have := (sof_round (s := s) (f0 := f0) (lc := lc) (lt := lt) (sf := A 60 15) (T := T) hW (show s * 8 + d < 128 by omega) hr (by rw [hX, hR, hR1])).1 (of_decide_eq_true g1.2)
          rw [hR]
          exact this
        · rw [if_neg g, if_neg]
          rintro ⟨g1, _, d, hd8, g2, g3⟩
          refine g (anyF_t.2 ⟨d, hd8, ?_⟩)
          rw [hQ]
          refine (Bool.and_eq_true _ _).mpr ⟨(Bool.and_eq_true _ _).mpr ⟨g1, (sty_t hW (by omega)).2 ⟨g2, fun i hi => ?_⟩⟩, decide_eq_true ?_⟩
          · exact sr_safe r _ (by rw [← hR]; exact g3 i hi)
          · exact (sof_round (s := s) (f0 := f0) (lc := lc) (lt := lt) (sf := A 60 15) (T := T) hW (show s * 8 + d < 128 by omega) hr (by rw [hX, hR, hR1])).2 (by rw [← hR]; exact g3)
      rw [hcv] at ih
      rw [e168_112]
      simp (disch := first | omega | assumption | exact Nat.le_of_ble_eq_true rfl) only [m168, e168_114, e168_116, e168_119, e168_120i, e168_120n, e168_120r, e168_122, e168_123i, e168_123n, e168_123r, Bool.false_eq_true, Bool.true_eq_false, gfK, pfK, lnK, isC, alK_n, asK_n, List.getElem?_cons_zero, List.getElem?_cons_succ, List.set_cons_zero, List.set_cons_succ, List.length_cons, List.length_nil, ↓reduceIte, if_true, if_false, eq_self, and_true, true_and, and_self, Option.bind_some, Option.bind_none, Option.toList_some, Option.toList_none, List.cons_append, List.nil_append, mset_at, mset_ne, mset_2, mset_mset, Nat.reduceLT, Nat.reduceAdd, le_16, h16, hd]
      by_cases g : anyF Q 8 = true
      · rw [g, if_pos rfl, bI_t] at ih
        rw [g]
        simp (disch := first | omega | assumption | exact Nat.le_of_ble_eq_true rfl) only [m168, e168_200, e168_201, e168_204, e168_206, e168_208, e168_211, e168_213, e168_216, e168_217, e168_220, e168_222, e168_223, e168_224i, e168_224n, e168_224r, e168_227, Bool.false_eq_true, Bool.true_eq_false, gfK, pfK, lnK, isC, alK_n, asK_n, List.getElem?_cons_zero, List.getElem?_cons_succ, List.set_cons_zero, List.set_cons_succ, List.length_cons, List.length_nil, ↓reduceIte, if_true, if_false, eq_self, and_true, true_and, and_self, Option.bind_some, Option.bind_none, Option.toList_some, Option.toList_none, List.cons_append, List.nil_append, mset_at, mset_ne, mset_2, mset_mset, Nat.reduceLT, Nat.reduceAdd, G_60, G_66, S_66, up_at, up_up, bI_t, nz1, nI_succ', ih]
      · have g' := Bool.eq_false_iff.2 g
        rw [g', if_neg Bool.false_ne_true, bI_f, h0] at ih
        rw [g']
        simp (disch := first | omega | assumption | exact Nat.le_of_ble_eq_true rfl) only [m168, e168_200, e168_201, e168_204, e168_206, e168_208, e168_211, e168_213, e168_216, e168_217, e168_220, e168_222, e168_223, e168_224i, e168_224n, e168_224r, e168_227, Bool.false_eq_true, Bool.true_eq_false, gfK, pfK, lnK, isC, alK_n, asK_n, List.getElem?_cons_zero, List.getElem?_cons_succ, List.set_cons_zero, List.set_cons_succ, List.length_cons, List.length_nil, ↓reduceIte, if_true, if_false, eq_self, and_true, true_and, and_self, Option.bind_some, Option.bind_none, Option.toList_some, Option.toList_none, List.cons_append, List.nil_append, mset_at, mset_ne, mset_2, mset_mset, Nat.reduceLT, Nat.reduceAdd, G_60, G_66, S_66, up_at, up_up, bI_f, hXs, h0, nI_succ', ih]
    · obtain ⟨m7, m8, m9, ih⟩ := V_sure_v hC hW hr f0 n (s + 1) (some (.int 0)) (some (.int 0)) l9 (by omega)
      refine ⟨m7, m8, m9, ?_⟩
      rw [← hR, ← hR1] at ih ⊢
      rw [← mix_succ, ← hX] at ih
      rw [← hX]
      rw [show R1 s = R s from by rw [hR1, hR]; exact sr_keep (by rw [← hR]; exact h0)] at ih
      rw [e168_112]
      simp (disch := first | omega | assumption | exact Nat.le_of_ble_eq_true rfl) only [m168, e168_114, e168_116, e168_119, e168_120i, e168_120n, e168_120r, e168_122, e168_123i, e168_123n, e168_123r, e168_125, e168_127, e168_129, e168_132, e168_133, e168_136, e168_138, e168_139, e168_141, Bool.false_eq_true, Bool.true_eq_false, gfK, pfK, lnK, isC, alK_n, asK_n, List.getElem?_cons_zero, List.getElem?_cons_succ, List.set_cons_zero, List.set_cons_succ, List.length_cons, List.length_nil, ↓reduceIte, if_true, if_false, eq_self, and_true, true_and, and_self, Option.bind_some, Option.bind_none, Option.toList_some, Option.toList_none, List.cons_append, List.nil_append, mset_at, mset_ne, mset_2, mset_mset, Nat.reduceLT, Nat.reduceAdd, le_16, h16, G_60, G_66, up_at, hXs, h0, show ¬ (8 : Int32) ≤ 0 from by decide]
      simp (disch := first | omega | assumption | exact Nat.le_of_ble_eq_true rfl) only [m168, e168_200, e168_201, e168_204, e168_206, e168_208, e168_211, e168_213, e168_216, e168_217, e168_220, e168_222, e168_223, e168_224i, e168_224n, e168_224r, e168_227, Bool.false_eq_true, Bool.true_eq_false, gfK, pfK, lnK, isC, alK_n, asK_n, List.getElem?_cons_zero, List.getElem?_cons_succ, List.set_cons_zero, List.set_cons_succ, List.length_cons, List.length_nil, ↓reduceIte, if_true, if_false, eq_self, and_true, true_and, and_self, Option.bind_some, Option.bind_none, Option.toList_some, Option.toList_none, List.cons_append, List.nil_append, mset_at, mset_ne, mset_2, mset_mset, Nat.reduceLT, Nat.reduceAdd, G_60, G_66, S_66, up_at, up_up, hXs, nI_succ', ih]
theorem V_sure_out (hC : MW A lc lt) (hW : WF lc lt) (f0 : Nat → Int32) : ∀ (n r : Nat) (l6 l7 l8 l9 : Option Value), r + n = 16 → ∃ l6' l7' l8' l9', ev 168 102 [some (.ref 60), some (.int x), some (.int y), some (.int z), some (.int T), some (.int (nI (r + 1))), l6, l7, l8, l9] [] (G b u v (up A 66 (mix 16 (sr lc lt (A 60 15) T r) f0)) τ) = ev 168 236 [some (.ref 60), some (.int x), some (.int y), some (.int z), some (.int T), some (.int (nI 17)), l6', l7', l8', l9'] [] (G b u v (up A 66 (mix 16 (sr lc lt (A 60 15) T 16) f0)) τ)
  | 0, r, l6, l7, l8, l9, hr => by
    have : r = 16 := by omega
    subst this
    refine ⟨l6, l7, l8, l9, ?_⟩
    rw [e168_102]
    simp (disch := first | omega | assumption | exact Nat.le_of_ble_eq_true rfl) only [m168, e168_104, e168_106, Bool.false_eq_true, Bool.true_eq_false, gfK, pfK, lnK, isC, alK_n, asK_n, List.getElem?_cons_zero, List.getElem?_cons_succ, List.set_cons_zero, List.set_cons_succ, List.length_cons, List.length_nil, ↓reduceIte, if_true, if_false, eq_self, and_true, true_and, and_self, Option.bind_some, Option.bind_none, Option.toList_some, Option.toList_none, List.cons_append, List.nil_append, mset_at, mset_ne, mset_2, mset_mset, Nat.reduceLT, Nat.reduceAdd, le_17, Nat.le_refl, Nat.reduceAdd]
  | n + 1, r, l6, l7, l8, l9, hr => by
    have h17 : ¬ 17 ≤ r + 1 := by omega
    obtain ⟨l7', l8', l9', hin⟩ := V_sure_v (b := b) (u := u) (v := v) (τ := τ) (x := x) (y := y) (z := z) (T := T) (r := r) hC hW (by omega) f0 16 0 l7 l8 l9 rfl
    obtain ⟨m6, m7, m8, m9, ih⟩ := V_sure_out hC hW f0 n (r + 1) (some (.int (nI 16))) l7' l8' l9' (by omega)
    refine ⟨m6, m7, m8, m9, ?_⟩
    rw [mix_0, mix_mix, ← lit_0] at hin
    rw [e168_102]
    simp (disch := first | omega | assumption | exact Nat.le_of_ble_eq_true rfl) only [m168, e168_104, e168_106, e168_109, e168_110i, e168_110n, e168_110r, Bool.false_eq_true, Bool.true_eq_false, gfK, pfK, lnK, isC, alK_n, asK_n, List.getElem?_cons_zero, List.getElem?_cons_succ, List.set_cons_zero, List.set_cons_succ, List.length_cons, List.length_nil, ↓reduceIte, if_true, if_false, eq_self, and_true, true_and, and_self, Option.bind_some, Option.bind_none, Option.toList_some, Option.toList_none, List.cons_append, List.nil_append, mset_at, mset_ne, mset_2, mset_mset, Nat.reduceLT, Nat.reduceAdd, le_17, h17, hin]
    simp (disch := first | omega | assumption | exact Nat.le_of_ble_eq_true rfl) only [m168, e168_230i, e168_230n, e168_230r, e168_233, Bool.false_eq_true, Bool.true_eq_false, gfK, pfK, lnK, isC, alK_n, asK_n, List.getElem?_cons_zero, List.getElem?_cons_succ, List.set_cons_zero, List.set_cons_succ, List.length_cons, List.length_nil, ↓reduceIte, if_true, if_false, eq_self, and_true, true_and, and_self, Option.bind_some, Option.bind_none, Option.toList_some, Option.toList_none, List.cons_append, List.nil_append, mset_at, mset_ne, mset_2, mset_mset, Nat.reduceLT, Nat.reduceAdd, nI_succ', ih]
theorem first_m (hC : MW A lc lt) (hW : WF lc lt) (hs : s < 16) (hX : A 66 = X) (hXv : ∀ t, t < 16 → X t = -9 ∨ ∃ k, k ≤ 16 ∧ X t = nI k) {P : Nat → Bool} (hx : ¬ X s ≤ 0) (hP : ∀ d, d < 8 → P d = (letP lc lt (A 60 15) s d && decide (sof lc lt X (s * 8 + d) = X s - 1))) : ∀ (n d : Nat), d + n = 8 → ev 168 250 [some (.ref 60), some (.int (nI s)), some (.int y), some (.int z), some (.int T), some (.int (nI d)), l6, l7, l8, l9] [] (G b u v A τ) = some (some (.int (firstF P d n)), (G b u v A τ))
  | 0, d, hd => by
    have : d = 8 := by omega
    subst this
    rw [e168_250]
    simp (disch := first | omega | assumption | exact Nat.le_of_ble_eq_true rfl) only [m168, e168_252, e168_254, Bool.false_eq_true, Bool.true_eq_false, gfK, pfK, lnK, isC, alK_n, asK_n, List.getElem?_cons_zero, List.getElem?_cons_succ, List.set_cons_zero, List.set_cons_succ, List.length_cons, List.length_nil, ↓reduceIte, if_true, if_false, eq_self, and_true, true_and, and_self, Option.bind_some, Option.bind_none, Option.toList_some, Option.toList_none, List.cons_append, List.nil_append, mset_at, mset_ne, mset_2, mset_mset, Nat.reduceLT, Nat.reduceAdd, le_8, Nat.le_refl, firstF, e168_303, e168_305]
  | n + 1, d, hd => by
    have ih := first_m hC hW hs hX hXv hx hP n (d + 1) (by omega)
    have h8 : ¬ 8 ≤ d := by omega
    have hd' : d < 8 := by omega
    have hPd := hP d hd'
    have hlet := V_isLet (b := b) (u := u) (v := v) (τ := τ) hC hW hs hd'
    have hso := V_sureOf (b := b) (u := u) (v := v) (τ := τ) hC hW hs hd' hX hXv
    rw [e168_250]
    by_cases h1 : letP lc lt (A 60 15) s d = true
    · rw [h1, Bool.true_and] at hPd
      rw [h1, bI_t] at hlet
      by_cases h2 : sof lc lt X (s * 8 + d) = X s - 1
      · rw [decide_eq_true h2] at hPd
        rw [firstF, hPd, if_pos rfl]
        simp (disch := first | omega | assumption | exact Nat.le_of_ble_eq_true rfl) only [m168, e168_252, e168_254, e168_257, e168_258, e168_261, e168_262, e168_263, e168_266, e168_267, e168_268, e168_270, e168_273, e168_276, e168_277, e168_278, e168_280, e168_283, e168_284, e168_287, e168_288, e168_289, e168_290, e168_291, e168_294, e168_296, e168_297i, e168_297n, e168_297r, e168_300, Bool.false_eq_true, Bool.true_eq_false, gfK, pfK, lnK, isC, alK_n, asK_n, List.getElem?_cons_zero, List.getElem?_cons_succ, List.set_cons_zero, List.set_cons_succ, List.length_cons, List.length_nil, ↓reduceIte, if_true, if_false, eq_self, and_true, true_and, and_self, Option.bind_some, Option.bind_none, Option.toList_some, Option.toList_none, List.cons_append, List.nil_append, mset_at, mset_ne, mset_2, mset_mset, Nat.reduceLT, Nat.reduceAdd, le_8, h8, G_60, G_66, hX, hx, hlet, nz1, hso, h2]
      · rw [decide_eq_false h2] at hPd
        rw [firstF, hPd, if_neg Bool.false_ne_true]
        simp (disch := first | omega | assumption | exact Nat.le_of_ble_eq_true rfl) only [m168, e168_252, e168_254, e168_257, e168_258, e168_261, e168_262, e168_263, e168_266, e168_267, e168_268, e168_270, e168_273, e168_276, e168_277, e168_278, e168_280, e168_283, e168_284, e168_287, e168_288, e168_289, e168_290, e168_291, e168_294, e168_296, e168_297i, e168_297n, e168_297r, e168_300, Bool.false_eq_true, Bool.true_eq_false, gfK, pfK, lnK, isC, alK_n, asK_n, List.getElem?_cons_zero, List.getElem?_cons_succ, List.set_cons_zero, List.set_cons_succ, List.length_cons, List.length_nil, ↓reduceIte, if_true, if_false, eq_self, and_true, true_and, and_self, Option.bind_some, Option.bind_none, Option.toList_some, Option.toList_none, List.cons_append, List.nil_append, mset_at, mset_ne, mset_2, mset_mset, Nat.reduceLT, Nat.reduceAdd, le_8, h8, G_60, G_66, hX, hx, hlet, nz1, hso, h2, nI_succ', ih]
    · rw [Bool.eq_false_iff.2 h1, Bool.false_and] at hPd
      rw [Bool.eq_false_iff.2 h1, bI_f] at hlet
      rw [firstF, hPd, if_neg Bool.false_ne_true]
      simp (disch := first | omega | assumption | exact Nat.le_of_ble_eq_true rfl) only [m168, e168_252, e168_254, e168_257, e168_258, e168_261, e168_262, e168_263, e168_266, e168_267, e168_268, e168_270, e168_273, e168_276, e168_277, e168_278, e168_280, e168_283, e168_284, e168_287, e168_288, e168_289, e168_290, e168_291, e168_294, e168_296, e168_297i, e168_297n, e168_297r, e168_300, Bool.false_eq_true, Bool.true_eq_false, gfK, pfK, lnK, isC, alK_n, asK_n, List.getElem?_cons_zero, List.getElem?_cons_succ, List.set_cons_zero, List.set_cons_succ, List.length_cons, List.length_nil, ↓reduceIte, if_true, if_false, eq_self, and_true, true_and, and_self, Option.bind_some, Option.bind_none, Option.toList_some, Option.toList_none, List.cons_append, List.nil_append, mset_at, mset_ne, mset_2, mset_mset, Nat.reduceLT, Nat.reduceAdd, le_8, h8, G_60, G_66, hX, hx, hlet, nI_succ', ih]
theorem firstF_congr {P Q : Nat → Bool} : ∀ (n d : Nat), (∀ e, d ≤ e → e < d + n → P e = Q e) → firstF P d n = firstF Q d n
  | 0, d, _ => rfl
  | n + 1, d, h => by rw [firstF, firstF, h d (by omega) (by omega), firstF_congr n (d + 1) (fun e h1 h2 => h e (by omega) (by omega))]
theorem sof_congr {Y : Nat → Int32} (hW : WF lc lt) (hk : k < 128) (h : ∀ t, t < 16 → X t = Y t) : sof lc lt X k = sof lc lt Y k := by
  have hf := (hW k hk).2
  unfold sof
  rw [anyF_congr (P := fun i => decide (X (lt k i) = -9)) (Q := fun i => decide (Y (lt k i) = -9)) (fun j hj => by rw [h _ (hf j hj)])]
  have : ∀ n, n ≤ lc k → mxF (fun i => dv X (lt k i)) n = mxF (fun i => dv Y (lt k i)) n := by
    intro n
    induction n with
    | zero =>
      intro _
      rw [mxF, mxF]
    | succ n ih =>
      intro hn
      rw [mxF, mxF, ih (by omega)]
      unfold dv
      rw [h _ (hf n (by omega))]
  rw [this (lc k) (Nat.le_refl _)]
/-- both ways to tell the first doing say the same -/
theorem first_eq (hW : WF lc lt) (hs : s < 16) (hd : d < 8) (hk0 : 0 < k) (hk : k ≤ 16) (hF : sr lc lt sf T 16 s = nI k) (hl : letP lc lt sf s d = true) : (!anyF (beyP (sr lc lt sf T 16) (setI (lt (s * 8 + d)) (lc (s * 8 + d))) (nI k - 1)) 16) = decide (sof lc lt (sr lc lt sf T 16) (s * 8 + d) = nI k - 1) := by
  have hkk : s * 8 + d < 128 := by omega
  have hf := (hW _ hkk).2
  have hl2 := (Bool.and_eq_true _ _).mp hl
  obtain ⟨hc0, hc1⟩ := (sty_t hW hkk).1 hl2.2
  have hk1 : nI k - 1 = nI (k - 1) := by
    obtain ⟨m, rfl⟩ : ∃ m, k = m + 1 := ⟨k - 1, by omega⟩
    exact nI_prd m
  rw [hk1]
  have hb : anyF (beyP (sr lc lt sf T 16) (setI (lt (s * 8 + d)) (lc (s * 8 + d))) (nI (k - 1))) 16 = false ↔ ∀ i, i < lc (s * 8 + d) → ∃ j, j < k ∧ sr lc lt sf T 16 (lt (s * 8 + d) i) = nI j := by
    rw [anyF_f]
    constructor
    · intro h i hi
      have h1 := h _ (hf i hi)
      have h2 : bi (setI (lt (s * 8 + d)) (lc (s * 8 + d))) (lt (s * 8 + d) i) = true := by
        rw [bi_setI (by have := hf i hi; omega) hf]
        exact anyF_t.2 ⟨i, hi, decide_eq_true rfl⟩
      rw [beyP, h2, Bool.true_and, Bool.not_eq_false', decide_eq_true_eq] at h1
      rcases sr_val (lc := lc) (lt := lt) (sf := sf) (set := T) 16 (lt (s * 8 + d) i) with g | ⟨j, hj, g⟩
      · rw [g] at h1
        exact absurd h1.1 (by decide)
      · rw [g, nI_leI (by omega) (by omega)] at h1
        exact ⟨j, by omega, g⟩
    · intro h t ht
      rw [beyP]
      by_cases h2 : bi (setI (lt (s * 8 + d)) (lc (s * 8 + d))) t = true
      · rw [bi_setI (by omega) hf] at h2
        obtain ⟨i, hi, he⟩ := anyF_t.1 h2
        obtain ⟨j, hj, g⟩ := h i hi
        rw [← of_decide_eq_true he] at g
        rw [g, decide_eq_true ⟨nI_pos' (by omega), (nI_leI (by omega) (by omega)).2 (by omega)⟩, Bool.not_true, Bool.and_false]
      · rw [Bool.eq_false_iff.2 h2, Bool.false_and]
  by_cases h : anyF (beyP (sr lc lt sf T 16) (setI (lt (s * 8 + d)) (lc (s * 8 + d))) (nI (k - 1))) 16 = true
  · rw [h, Bool.not_true]
    refine (decide_eq_false fun g => ?_).symm
    refine Bool.false_ne_true ((hb.2 fun i hi => ?_).symm.trans h)
    unfold sof at g
    by_cases ha : anyF (fun i => decide (sr lc lt sf T 16 (lt (s * 8 + d) i) = -9)) (lc (s * 8 + d)) = true
    · rw [if_pos ha] at g
      exact absurd g.symm (nI_m9 (by omega))
    · rw [if_neg ha] at g
      have hv : ∀ j, j < lc (s * 8 + d) → ∃ e, e ≤ 16 ∧ sr lc lt sf T 16 (lt (s * 8 + d) j) = nI e := fun j hj => by
        refine (sr_val 16 _).resolve_left fun g1 => ha (anyF_t.2 ⟨j, hj, decide_eq_true g1⟩)
      have hub : mxF (fun i => dv (sr lc lt sf T 16) (lt (s * 8 + d) i)) (lc (s * 8 + d)) ≤ 16 := mxF_ub fun j hj => by
        obtain ⟨e, he, g1⟩ := hv j hj
        show dv _ _ ≤ 16
        rw [dv_of (by omega) g1]
        exact he
      have g2 := nI_inj (by omega) (by omega) g
      obtain ⟨e, he, g1⟩ := hv i hi
      have h3 := mxF_le (val := fun i => dv (sr lc lt sf T 16) (lt (s * 8 + d) i)) hi
      have h3 : dv (sr lc lt sf T 16) (lt (s * 8 + d) i) ≤ mxF (fun i => dv (sr lc lt sf T 16) (lt (s * 8 + d) i)) (lc (s * 8 + d)) := h3
      rw [dv_of (by omega) g1] at h3
      exact ⟨e, by omega, g1⟩
  · have h' := Bool.eq_false_iff.2 h
    rw [h', Bool.not_false]
    have hv := hb.1 h'
    refine (decide_eq_true ?_).symm
    have ha : anyF (fun i => decide (sr lc lt sf T 16 (lt (s * 8 + d) i) = -9)) (lc (s * 8 + d)) = false := anyF_f.2 fun j hj => by
      obtain ⟨e, he, g⟩ := hv j hj
      rw [g]
      exact decide_eq_false (nI_m9 (by omega))
    unfold sof
    rw [if_neg (by rw [ha]; exact Bool.false_ne_true)]
    have hub : mxF (fun i => dv (sr lc lt sf T 16) (lt (s * 8 + d) i)) (lc (s * 8 + d)) ≤ k - 1 := mxF_ub fun j hj => by
      obtain ⟨e, he, g⟩ := hv j hj
      show dv _ _ ≤ k - 1
      rw [dv_of (by omega) g]
      omega
    obtain ⟨m, hm⟩ : ∃ m, m = mxF (fun i => dv (sr lc lt sf T 16) (lt (s * 8 + d) i)) (lc (s * 8 + d)) := ⟨_, rfl⟩
    rw [← hm] at hub ⊢
    by_cases hmk : m = k - 1
    · rw [hmk]
    · exfalso
      have hlow : ∀ i, i < lc (s * 8 + d) → ¬ sr lc lt sf T m (lt (s * 8 + d) i) = -9 := fun i hi => by
        obtain ⟨e, he, g⟩ := hv i hi
        have h3 := mxF_le (val := fun i => dv (sr lc lt sf T 16) (lt (s * 8 + d) i)) hi
        have h3 : dv (sr lc lt sf T 16) (lt (s * 8 + d) i) ≤ mxF (fun i => dv (sr lc lt sf T 16) (lt (s * 8 + d) i)) (lc (s * 8 + d)) := h3
        rw [dv_of (by omega) g, ← hm] at h3
        have g2 := sr_at (lc := lc) (lt := lt) (sf := sf) (set := T) (s := lt (s * 8 + d) i) (k := e) (16 - e) (by omega) (by rw [show e + (16 - e) = 16 by omega]; exact g)
        have g3 := sr_mono (lc := lc) (lt := lt) (sf := sf) (set := T) (r := e) (s := lt (s * 8 + d) i) (by rw [g2]; exact nI_m9 (by omega)) (m - e)
        rw [show e + (m - e) = m by omega, g2] at g3
        rw [g3]
        exact nI_m9 (by omega)
      have hs9 : sr lc lt sf T m s = -9 := by
        refine Classical.byContradiction fun g => ?_
        have g1 := sr_mono g (16 - m)
        rw [show m + (16 - m) = 16 by omega, hF] at g1
        rcases sr_val (lc := lc) (lt := lt) (sf := sf) (set := T) m s with g2 | ⟨e, he, g2⟩
        · exact g g2
        · rw [g2] at g1
          have := nI_inj (by omega) (by omega) g1
          omega
      have hn : sr lc lt sf T (m + 1) s = nI (m + 1) := by
        rw [sr, if_pos ⟨hl2.1, hs9, d, hd, hc0, hlow⟩]
      have g1 := sr_mono (lc := lc) (lt := lt) (sf := sf) (set := T) (r := m + 1) (s := s) (by rw [hn]; exact nI_m9 (by omega)) (16 - (m + 1))
      rw [show m + 1 + (16 - (m + 1)) = 16 by omega, hF, hn] at g1
      have := nI_inj (by omega) (by omega) g1
      omega
theorem w_sure (hb : b = 8 ∨ b = 19) (hR : WR b A lc lt) (h0 : A 60 0 = 0) (x y z : Int32) : ∃ r A', evM 95 [.ref 0, .int x, .int y, .int z] (G b u v A τ) = some (some (.int r), (G b u v A τ)) ∧ evM 168 [.ref 60, .int x, .int y, .int z] (G b u v A τ) = some (some (.int r), G b u v A' τ) ∧ ∀ k, k ≠ 66 → A' k = A k := by
  rcases idx x (n := 16) (by omega) with hx | ⟨s, hs, rfl⟩
  · refine ⟨-1, A, ?_, ?_, fun _ _ => rfl⟩
    · simp (disch := first | omega | assumption | exact Nat.le_of_ble_eq_true rfl) only [m95, e95_0, e95_1, e95_4, e95_7, e95_8, e95_9, e95_10, e95_13, e95_16, e95_17, e95_18, e95_19, e95_22, e95_25, e95_26, e95_27, e95_28, e95_31, e95_32, e95_35, e95_36, e95_37, e95_40, e95_43, e95_44, e95_47, e95_48, e95_49, e95_52, Bool.false_eq_true, Bool.true_eq_false, gfK, pfK, lnK, isC, alK_n, asK_n, List.getElem?_cons_zero, List.getElem?_cons_succ, List.set_cons_zero, List.set_cons_succ, List.length_cons, List.length_nil, ↓reduceIte, if_true, if_false, eq_self, and_true, true_and, and_self, Option.bind_some, Option.bind_none, Option.toList_some, Option.toList_none, List.cons_append, List.nil_append, mset_at, mset_ne, mset_2, mset_mset, Nat.reduceLT, Nat.reduceAdd, R_isStateN hx]
    · simp (disch := first | omega | assumption | exact Nat.le_of_ble_eq_true rfl) only [m168, e168_0, e168_1, e168_2, e168_5, e168_6, e168_9, e168_12, e168_13, e168_14, e168_15, e168_18, e168_21, e168_22, e168_23, e168_24, e168_27, e168_30, e168_31, Bool.false_eq_true, Bool.true_eq_false, gfK, pfK, lnK, isC, alK_n, asK_n, List.getElem?_cons_zero, List.getElem?_cons_succ, List.set_cons_zero, List.set_cons_succ, List.length_cons, List.length_nil, ↓reduceIte, if_true, if_false, eq_self, and_true, true_and, and_self, Option.bind_some, Option.bind_none, Option.toList_some, Option.toList_none, List.cons_append, List.nil_append, mset_at, mset_ne, mset_2, mset_mset, Nat.reduceLT, Nat.reduceAdd, G_60, G_thr h0, M_isStateN hx]
  · by_cases h1 : (1 : Int32) ≤ y ∧ y ≤ 2
    · by_cases h2 : (0 : Int32) ≤ z ∧ z ≤ 1
      · have hR' := hR
        obtain ⟨r1, r2, r3, ⟨a0, a1, a2, a3⟩, r5, ⟨a4, a5, a6, a7⟩, r7⟩ := hR
        obtain ⟨T, hT⟩ : ∃ T, (y = 1 ∧ T = A b 3) ∨ (y = 2 ∧ T = A b 4) := by
          by_cases hy : y = 1
          · exact ⟨A b 3, Or.inl ⟨hy, rfl⟩⟩
          · refine ⟨A b 4, Or.inr ⟨?_, rfl⟩⟩
            have g1 := Int32.le_iff_toInt_le.1 h1.1
            have g2 := Int32.le_iff_toInt_le.1 h1.2
            have e1 : (1 : Int32).toInt = 1 := by decide
            have e2 : (2 : Int32).toInt = 2 := by decide
            have : ¬ y.toInt = 1 := fun g => hy (Int32.toInt_inj.1 (g.trans e1.symm))
            exact Int32.toInt_inj.1 (by omega)
        have hT' : (if y = 1 then A 60 9 else A 60 10) = T := by
          rcases hT with ⟨g, e⟩ | ⟨g, e⟩
          · rw [if_pos g, e, a2]
          · rw [if_neg (by rw [g]; decide), e, a3]
        have hso := W_sureOf (b := b) (u := u) (v := v) (τ := τ) hb hR' hT hs
        obtain ⟨X, hX⟩ : ∃ X, X = mix 16 (sr lc lt (A b 6) T 16) (A 66) := ⟨_, rfl⟩
        have hXt : ∀ t, t < 16 → X t = sr lc lt (A b 6) T 16 t := fun t ht => by rw [hX, mix_lt ht]
        have g0 := V_sr0 (b := b) (u := u) (v := v) (τ := τ) (A := A) (lc := lc) (lt := lt) (x := nI s) (y := y) (z := z) (T := T) (l6 := none) (l7 := none) (l8 := none) (l9 := none) (A 66) 16 0 rfl
        obtain ⟨m6, m7, m8, m9, g1⟩ := V_sure_out (b := b) (u := u) (v := v) (τ := τ) (A := A) (lc := lc) (lt := lt) (x := nI s) (y := y) (z := z) (T := T) r3 r1 (A 66) 16 0 none none none none rfl
        rw [← a7, show nI (0 + 1) = 1 from rfl, ← hX] at g1
        rw [← a7, mix_0, up_same, ← lit_0] at g0
        have hm1 : evM 168 [.ref 60, .int (nI s), .int y, .int z] (G b u v A τ) = ev 168 236 [some (.ref 60), some (.int (nI s)), some (.int y), some (.int z), some (.int T), some (.int (nI 17)), m6, m7, m8, m9] [] (G b u v (up A 66 X) τ) := by
          by_cases hy : y = 1
          · rw [if_pos hy] at hT'
            simp (disch := first | omega | assumption | exact Nat.le_of_ble_eq_true rfl) only [m168, e168_0, e168_1, e168_2, e168_5, e168_6, e168_9, e168_12, e168_13, e168_14, e168_15, e168_18, e168_21, e168_22, e168_23, e168_24, e168_27, e168_30, e168_31, e168_32, e168_33, e168_34, e168_37, e168_38, e168_41, e168_44, e168_45, Bool.false_eq_true, Bool.true_eq_false, gfK, pfK, lnK, isC, alK_n, asK_n, List.getElem?_cons_zero, List.getElem?_cons_succ, List.set_cons_zero, List.set_cons_succ, List.length_cons, List.length_nil, ↓reduceIte, if_true, if_false, eq_self, and_true, true_and, and_self, Option.bind_some, Option.bind_none, Option.toList_some, Option.toList_none, List.cons_append, List.nil_append, mset_at, mset_ne, mset_2, mset_mset, Nat.reduceLT, Nat.reduceAdd, G_60, G_thr h0, M_isState hs, nz1, M_in, h1, h2, eq_true hy]
            rw [hT']
            simp (disch := first | omega | assumption | exact Nat.le_of_ble_eq_true rfl) only [m168, e168_48i, e168_48n, e168_48r, e168_50, e168_51i, e168_51n, e168_51r, Bool.false_eq_true, Bool.true_eq_false, gfK, pfK, lnK, isC, alK_n, asK_n, List.getElem?_cons_zero, List.getElem?_cons_succ, List.set_cons_zero, List.set_cons_succ, List.length_cons, List.length_nil, ↓reduceIte, if_true, if_false, eq_self, and_true, true_and, and_self, Option.bind_some, Option.bind_none, Option.toList_some, Option.toList_none, List.cons_append, List.nil_append, mset_at, mset_ne, mset_2, mset_mset, Nat.reduceLT, Nat.reduceAdd, g0]
            simp (disch := first | omega | assumption | exact Nat.le_of_ble_eq_true rfl) only [m168, e168_99, e168_100i, e168_100n, e168_100r, Bool.false_eq_true, Bool.true_eq_false, gfK, pfK, lnK, isC, alK_n, asK_n, List.getElem?_cons_zero, List.getElem?_cons_succ, List.set_cons_zero, List.set_cons_succ, List.length_cons, List.length_nil, ↓reduceIte, if_true, if_false, eq_self, and_true, true_and, and_self, Option.bind_some, Option.bind_none, Option.toList_some, Option.toList_none, List.cons_append, List.nil_append, mset_at, mset_ne, mset_2, mset_mset, Nat.reduceLT, Nat.reduceAdd, g1]
          · rw [if_neg hy] at hT'
            simp (disch := first | omega | assumption | exact Nat.le_of_ble_eq_true rfl) only [m168, e168_0, e168_1, e168_2, e168_5, e168_6, e168_9, e168_12, e168_13, e168_14, e168_15, e168_18, e168_21, e168_22, e168_23, e168_24, e168_27, e168_30, e168_31, e168_32, e168_33, e168_34, e168_37, e168_38, e168_41, e168_44, e168_45, Bool.false_eq_true, Bool.true_eq_false, gfK, pfK, lnK, isC, alK_n, asK_n, List.getElem?_cons_zero, List.getElem?_cons_succ, List.set_cons_zero, List.set_cons_succ, List.length_cons, List.length_nil, ↓reduceIte, if_true, if_false, eq_self, and_true, true_and, and_self, Option.bind_some, Option.bind_none, Option.toList_some, Option.toList_none, List.cons_append, List.nil_append, mset_at, mset_ne, mset_2, mset_mset, Nat.reduceLT, Nat.reduceAdd, G_60, G_thr h0, M_isState hs, nz1, M_in, h1, h2, hy]
            rw [hT']
            simp (disch := first | omega | assumption | exact Nat.le_of_ble_eq_true rfl) only [m168, e168_48i, e168_48n, e168_48r, e168_50, e168_51i, e168_51n, e168_51r, Bool.false_eq_true, Bool.true_eq_false, gfK, pfK, lnK, isC, alK_n, asK_n, List.getElem?_cons_zero, List.getElem?_cons_succ, List.set_cons_zero, List.set_cons_succ, List.length_cons, List.length_nil, ↓reduceIte, if_true, if_false, eq_self, and_true, true_and, and_self, Option.bind_some, Option.bind_none, Option.toList_some, Option.toList_none, List.cons_append, List.nil_append, mset_at, mset_ne, mset_2, mset_mset, Nat.reduceLT, Nat.reduceAdd, g0]
            simp (disch := first | omega | assumption | exact Nat.le_of_ble_eq_true rfl) only [m168, e168_99, e168_100i, e168_100n, e168_100r, Bool.false_eq_true, Bool.true_eq_false, gfK, pfK, lnK, isC, alK_n, asK_n, List.getElem?_cons_zero, List.getElem?_cons_succ, List.set_cons_zero, List.set_cons_succ, List.length_cons, List.length_nil, ↓reduceIte, if_true, if_false, eq_self, and_true, true_and, and_self, Option.bind_some, Option.bind_none, Option.toList_some, Option.toList_none, List.cons_append, List.nil_append, mset_at, mset_ne, mset_2, mset_mset, Nat.reduceLT, Nat.reduceAdd, g1]
        by_cases hz : z = 0
        · refine ⟨sr lc lt (A b 6) T 16 s, up A 66 X, ?_, ?_, fun k hk => up_ne hk⟩
          · simp (disch := first | omega | assumption | exact Nat.le_of_ble_eq_true rfl) only [m95, e95_0, e95_1, e95_4, e95_7, e95_8, e95_9, e95_10, e95_13, e95_16, e95_17, e95_18, e95_19, e95_22, e95_25, e95_26, e95_27, e95_28, e95_31, e95_32, e95_35, e95_36, e95_37, e95_40, e95_43, e95_44, e95_47, e95_48, e95_49, e95_52, Bool.false_eq_true, Bool.true_eq_false, gfK, pfK, lnK, isC, alK_n, asK_n, List.getElem?_cons_zero, List.getElem?_cons_succ, List.set_cons_zero, List.set_cons_succ, List.length_cons, List.length_nil, ↓reduceIte, if_true, if_false, eq_self, and_true, true_and, and_self, Option.bind_some, Option.bind_none, Option.toList_some, Option.toList_none, List.cons_append, List.nil_append, mset_at, mset_ne, mset_2, mset_mset, Nat.reduceLT, Nat.reduceAdd, R_isState hs, nz1, R_within, h1, h2, eq_true hz, G_0, G_W0 hb, hso]
          · have hXs := hXt s hs
            rw [hm1]
            simp (disch := first | omega | assumption | exact Nat.le_of_ble_eq_true rfl) only [m168, e168_236, e168_237, e168_240, e168_241, e168_244, e168_245, e168_246, Bool.false_eq_true, Bool.true_eq_false, gfK, pfK, lnK, isC, alK_n, asK_n, List.getElem?_cons_zero, List.getElem?_cons_succ, List.set_cons_zero, List.set_cons_succ, List.length_cons, List.length_nil, ↓reduceIte, if_true, if_false, eq_self, and_true, true_and, and_self, Option.bind_some, Option.bind_none, Option.toList_some, Option.toList_none, List.cons_append, List.nil_append, mset_at, mset_ne, mset_2, mset_mset, Nat.reduceLT, Nat.reduceAdd, eq_true hz, G_60, G_66, up_at, hXs]
        · by_cases hF : sr lc lt (A b 6) T 16 s ≤ 0
          · refine ⟨-9, up A 66 X, ?_, ?_, fun k hk => up_ne hk⟩
            · simp (disch := first | omega | assumption | exact Nat.le_of_ble_eq_true rfl) only [m95, e95_0, e95_1, e95_4, e95_7, e95_8, e95_9, e95_10, e95_13, e95_16, e95_17, e95_18, e95_19, e95_22, e95_25, e95_26, e95_27, e95_28, e95_31, e95_32, e95_35, e95_36, e95_37, e95_40, e95_43, e95_44, e95_47, e95_48, e95_49, e95_52, m77, e77_0, e77_1, e77_2, e77_3, e77_6i, e77_6n, e77_6r, e77_7, e77_8i, e77_8n, e77_8r, e77_10, e77_12, e77_14, e77_17, e77_18, e77_21, e77_22, e77_23, e77_25, e77_28, e77_31, e77_32, e77_33, e77_34, e77_36, e77_39, e77_40, e77_41, e77_42, e77_43, e77_46, e77_49, e77_51, e77_52i, e77_52n, e77_52r, e77_55, e77_58, e77_60, Bool.false_eq_true, Bool.true_eq_false, gfK, pfK, lnK, isC, alK_n, asK_n, List.getElem?_cons_zero, List.getElem?_cons_succ, List.set_cons_zero, List.set_cons_succ, List.length_cons, List.length_nil, ↓reduceIte, if_true, if_false, eq_self, and_true, true_and, and_self, Option.bind_some, Option.bind_none, Option.toList_some, Option.toList_none, List.cons_append, List.nil_append, mset_at, mset_ne, mset_2, mset_mset, Nat.reduceLT, Nat.reduceAdd, R_isState hs, nz1, R_within, h1, h2, hz, G_0, G_W0 hb, hso, hF, show ¬ (8 : Int32) ≤ 0 from by decide]
            · have hXs := hXt s hs
              rw [hm1]
              simp (disch := first | omega | assumption | exact Nat.le_of_ble_eq_true rfl) only [m168, e168_236, e168_237, e168_240, e168_241, e168_244, e168_245, e168_246, e168_247, e168_248i, e168_248n, e168_248r, e168_250, e168_252, e168_254, e168_257, e168_258, e168_261, e168_262, e168_263, e168_266, e168_267, e168_268, e168_270, e168_273, e168_276, e168_277, e168_278, e168_280, e168_283, e168_284, e168_287, e168_288, e168_289, e168_290, e168_291, e168_294, e168_296, e168_297i, e168_297n, e168_297r, e168_300, e168_303, e168_305, Bool.false_eq_true, Bool.true_eq_false, gfK, pfK, lnK, isC, alK_n, asK_n, List.getElem?_cons_zero, List.getElem?_cons_succ, List.set_cons_zero, List.set_cons_succ, List.length_cons, List.length_nil, ↓reduceIte, if_true, if_false, eq_self, and_true, true_and, and_self, Option.bind_some, Option.bind_none, Option.toList_some, Option.toList_none, List.cons_append, List.nil_append, mset_at, mset_ne, mset_2, mset_mset, Nat.reduceLT, Nat.reduceAdd, hz, G_60, G_66, up_at, hXs, hF, show ¬ (8 : Int32) ≤ 0 from by decide]
          · obtain ⟨k, hk, hFk⟩ : ∃ k, k ≤ 16 ∧ sr lc lt (A b 6) T 16 s = nI k := (sr_val 16 s).resolve_left fun g => hF (by rw [g]; decide)
            have hk0 : 0 < k := by
              rw [hFk, le0_nI (by omega)] at hF
              omega
            obtain ⟨P, hP⟩ : ∃ P : Nat → Bool, P = fun d => letP lc lt (A b 6) s d && !anyF (beyP (sr lc lt (A b 6) T 16) (setI (lt (s * 8 + d)) (lc (s * 8 + d))) (sr lc lt (A b 6) T 16 s - 1)) 16 := ⟨_, rfl⟩
            have c1 := first_loop (b := b) (u := u) (v := v) (τ := τ) (x := sr lc lt (A b 6) T 16 s) hb hR' hT hs (P := P) hF (fun d _ => by rw [hP]) 8 0 rfl
            have hXs := hXt s hs
            have c2 := first_m (b := b) (u := u) (v := v) (τ := τ) (A := up A 66 X) (X := X) (s := s) (y := y) (z := z) (T := T) (l6 := m6) (l7 := m7) (l8 := m8) (l9 := m9) (MW_up (by omega) r3) r1 hs up_at (fun t ht => by rw [hXt t ht]; exact sr_val 16 t) (P := P) (by rw [hXs]; exact hF) (fun d hd => by
              rw [hP, up_ne (by omega), ← a7, hXs, sof_congr r1 (by omega) hXt]
              by_cases hl : letP lc lt (A b 6) s d = true
              · show (letP lc lt (A b 6) s d && _) = _
                rw [hl, Bool.true_and, Bool.true_and, hFk]
                exact first_eq r1 hs hd hk0 hk hFk hl
              · show (letP lc lt (A b 6) s d && _) = _
                rw [Bool.eq_false_iff.2 hl]
                rfl) 8 0 rfl
            rw [← lit_0] at c1 c2
            refine ⟨firstF P 0 8, up A 66 X, ?_, ?_, fun k hk => up_ne hk⟩
            · simp (disch := first | omega | assumption | exact Nat.le_of_ble_eq_true rfl) only [m95, e95_0, e95_1, e95_4, e95_7, e95_8, e95_9, e95_10, e95_13, e95_16, e95_17, e95_18, e95_19, e95_22, e95_25, e95_26, e95_27, e95_28, e95_31, e95_32, e95_35, e95_36, e95_37, e95_40, e95_43, e95_44, e95_47, e95_48, e95_49, e95_52, m77, e77_0, e77_1, e77_2, e77_3, e77_6i, e77_6n, e77_6r, e77_7, e77_8i, e77_8n, e77_8r, e77_12, e77_14, e77_17, e77_18, e77_21, e77_22, e77_23, e77_25, e77_28, e77_31, e77_32, e77_33, e77_34, e77_36, e77_39, e77_40, e77_41, e77_42, e77_43, e77_46, e77_49, e77_51, e77_52i, e77_52n, e77_52r, e77_55, e77_58, e77_60, Bool.false_eq_true, Bool.true_eq_false, gfK, pfK, lnK, isC, alK_n, asK_n, List.getElem?_cons_zero, List.getElem?_cons_succ, List.set_cons_zero, List.set_cons_succ, List.length_cons, List.length_nil, ↓reduceIte, if_true, if_false, eq_self, and_true, true_and, and_self, Option.bind_some, Option.bind_none, Option.toList_some, Option.toList_none, List.cons_append, List.nil_append, mset_at, mset_ne, mset_2, mset_mset, Nat.reduceLT, Nat.reduceAdd, R_isState hs, nz1, R_within, h1, h2, hz, G_0, G_W0 hb, hso, c1]
            · rw [hm1]
              simp (disch := first | omega | assumption | exact Nat.le_of_ble_eq_true rfl) only [m168, e168_236, e168_237, e168_240, e168_241, e168_244, e168_245, e168_246, e168_247, e168_248i, e168_248n, e168_248r, Bool.false_eq_true, Bool.true_eq_false, gfK, pfK, lnK, isC, alK_n, asK_n, List.getElem?_cons_zero, List.getElem?_cons_succ, List.set_cons_zero, List.set_cons_succ, List.length_cons, List.length_nil, ↓reduceIte, if_true, if_false, eq_self, and_true, true_and, and_self, Option.bind_some, Option.bind_none, Option.toList_some, Option.toList_none, List.cons_append, List.nil_append, mset_at, mset_ne, mset_2, mset_mset, Nat.reduceLT, Nat.reduceAdd, hz, c2]
      · refine ⟨-1, A, ?_, ?_, fun _ _ => rfl⟩
        · simp (disch := first | omega | assumption | exact Nat.le_of_ble_eq_true rfl) only [m95, e95_0, e95_1, e95_4, e95_7, e95_8, e95_9, e95_10, e95_13, e95_16, e95_17, e95_18, e95_19, e95_22, e95_25, e95_26, e95_27, e95_28, e95_31, e95_32, e95_35, e95_36, e95_37, e95_40, e95_43, e95_44, e95_47, e95_48, e95_49, e95_52, Bool.false_eq_true, Bool.true_eq_false, gfK, pfK, lnK, isC, alK_n, asK_n, List.getElem?_cons_zero, List.getElem?_cons_succ, List.set_cons_zero, List.set_cons_succ, List.length_cons, List.length_nil, ↓reduceIte, if_true, if_false, eq_self, and_true, true_and, and_self, Option.bind_some, Option.bind_none, Option.toList_some, Option.toList_none, List.cons_append, List.nil_append, mset_at, mset_ne, mset_2, mset_mset, Nat.reduceLT, Nat.reduceAdd, R_isState hs, nz1, R_within, h1, h2]
        · simp (disch := first | omega | assumption | exact Nat.le_of_ble_eq_true rfl) only [m168, e168_0, e168_1, e168_2, e168_5, e168_6, e168_9, e168_12, e168_13, e168_14, e168_15, e168_18, e168_21, e168_22, e168_23, e168_24, e168_27, e168_30, e168_31, Bool.false_eq_true, Bool.true_eq_false, gfK, pfK, lnK, isC, alK_n, asK_n, List.getElem?_cons_zero, List.getElem?_cons_succ, List.set_cons_zero, List.set_cons_succ, List.length_cons, List.length_nil, ↓reduceIte, if_true, if_false, eq_self, and_true, true_and, and_self, Option.bind_some, Option.bind_none, Option.toList_some, Option.toList_none, List.cons_append, List.nil_append, mset_at, mset_ne, mset_2, mset_mset, Nat.reduceLT, Nat.reduceAdd, G_60, G_thr h0, M_isState hs, nz1, M_in, h1, h2]
    · refine ⟨-1, A, ?_, ?_, fun _ _ => rfl⟩
      · simp (disch := first | omega | assumption | exact Nat.le_of_ble_eq_true rfl) only [m95, e95_0, e95_1, e95_4, e95_7, e95_8, e95_9, e95_10, e95_13, e95_16, e95_17, e95_18, e95_19, e95_22, e95_25, e95_26, e95_27, e95_28, e95_31, e95_32, e95_35, e95_36, e95_37, e95_40, e95_43, e95_44, e95_47, e95_48, e95_49, e95_52, Bool.false_eq_true, Bool.true_eq_false, gfK, pfK, lnK, isC, alK_n, asK_n, List.getElem?_cons_zero, List.getElem?_cons_succ, List.set_cons_zero, List.set_cons_succ, List.length_cons, List.length_nil, ↓reduceIte, if_true, if_false, eq_self, and_true, true_and, and_self, Option.bind_some, Option.bind_none, Option.toList_some, Option.toList_none, List.cons_append, List.nil_append, mset_at, mset_ne, mset_2, mset_mset, Nat.reduceLT, Nat.reduceAdd, R_isState hs, nz1, R_within, h1]
      · simp (disch := first | omega | assumption | exact Nat.le_of_ble_eq_true rfl) only [m168, e168_0, e168_1, e168_2, e168_5, e168_6, e168_9, e168_12, e168_13, e168_14, e168_15, e168_18, e168_21, e168_22, e168_23, e168_24, e168_27, e168_30, e168_31, Bool.false_eq_true, Bool.true_eq_false, gfK, pfK, lnK, isC, alK_n, asK_n, List.getElem?_cons_zero, List.getElem?_cons_succ, List.set_cons_zero, List.set_cons_succ, List.length_cons, List.length_nil, ↓reduceIte, if_true, if_false, eq_self, and_true, true_and, and_self, Option.bind_some, Option.bind_none, Option.toList_some, Option.toList_none, List.cons_append, List.nil_append, mset_at, mset_ne, mset_2, mset_mset, Nat.reduceLT, Nat.reduceAdd, G_60, G_thr h0, M_isState hs, nz1, M_in, h1]
end SURE2
