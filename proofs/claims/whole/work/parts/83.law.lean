/-! THE LAW'S BODY (printed by gen/mk_law.py): a call a case; its loop. -/
section LAWB
variable {b i L s N : Nat} {u v : Int64} {A : Nat → Nat → Int32} {xs : Nat → Int32}
theorem lg_cmp_self (r : Int64) : lg_cmp r r = 0 := (lg_cmp_eq _ _).2 rfl
def lsL (i : Nat) : mL := [some (.float 9), some (.ref 0), some (.ref 60), some (.int (nI i))]
theorem lx_in {j : Nat} (hi : i + 6 ≤ L) (hL : L < 5000) (hj : j < 6) : ¬ (nI (i + j) < 0 ∨ (G b u v A (N, s, L, xs)).2.2.2.1 ≤ (nI (i + j)).toNatClampNeg) := by
  show ¬ (nI (i + j) < 0 ∨ L ≤ (nI (i + j)).toNatClampNeg)
  rw [nI_clamp (by omega), nI_not_neg (by omega)]
  exact fun h => h.elim id (fun h => by omega)
theorem lx_in0 (hi : i + 6 ≤ L) (hL : L < 5000) : ¬ (nI i < 0 ∨ (G b u v A (N, s, L, xs)).2.2.2.1 ≤ (nI i).toNatClampNeg) := lx_in (j := 0) hi hL (by omega)
theorem lc_type (hi : i + 6 ≤ L) (hL : L < 5000) (hI : INV b u v A) : ∃ b2 u2 v2 A2, ev 220 192 (lsL i) [] (G b u v A (N, s, L, xs)) = ev 220 1322 (lsL i) [] (G b2 u2 v2 A2 (N, s, L, xs)) ∧ INV b2 u2 v2 A2 := by
  obtain ⟨r, b1, u1, A1, b2, u2, v2, A2, h1, h2, h3⟩ := k_type ((xs (i + 1)).toInt64 <<< ((32 : Int32).toInt64 &&& 63) ||| (xs (i + 2)).toInt64 &&& 4294967295) (xs (i + 3)) b u v A (N, s, L, xs) hI
  refine ⟨b2, u2, v2, A2, ?_, h3⟩
  have p1 := lx_in (b := b) (u := u) (v := v) (A := A) (N := N) (s := s) (xs := xs) (j := 1) hi hL (by omega)
  have q1 := lx_in (b := b1) (u := u1) (v := v) (A := A1) (N := N) (s := s) (xs := xs) (j := 1) hi hL (by omega)
  have p2 := lx_in (b := b) (u := u) (v := v) (A := A) (N := N) (s := s) (xs := xs) (j := 2) hi hL (by omega)
  have q2 := lx_in (b := b1) (u := u1) (v := v) (A := A1) (N := N) (s := s) (xs := xs) (j := 2) hi hL (by omega)
  have p3 := lx_in (b := b) (u := u) (v := v) (A := A) (N := N) (s := s) (xs := xs) (j := 3) hi hL (by omega)
  have q3 := lx_in (b := b1) (u := u1) (v := v) (A := A1) (N := N) (s := s) (xs := xs) (j := 3) hi hL (by omega)
  unfold lsL
  simp (disch := first | omega | assumption | exact Nat.le_of_ble_eq_true rfl) only [m220, e220_192, e220_192f, e220_193, e220_193f, e220_194, e220_195, e220_196, e220_197, e220_197f, e220_198, e220_199, e220_201, e220_202, e220_202f, e220_203, e220_204, e220_205, e220_206, e220_206f, e220_207, e220_208, e220_211, e220_212, e220_213, e220_213f, e220_214, e220_215, e220_216, e220_217, e220_217f, e220_218, e220_221, e220_221f, e220_222, e220_222f, e220_223, e220_224, e220_225, e220_226, e220_226f, e220_227, e220_228, e220_230, e220_231, e220_231f, e220_232, e220_233, e220_234, e220_235, e220_235f, e220_236, e220_237, e220_240, e220_241, e220_242, e220_242f, e220_243, e220_244, e220_245, e220_246, e220_246f, e220_247, e220_250, e220_253, e220_254b0, e220_254b1, Bool.false_eq_true, Bool.true_eq_false, gfK, pfK, lnK, isC, alK_n, asK_n, List.getElem?_cons_zero, List.getElem?_cons_succ, List.set_cons_zero, List.set_cons_succ, List.length_cons, List.length_nil, ↓reduceIte, if_true, if_false, eq_self, and_true, true_and, and_self, Option.bind_some, Option.bind_none, Option.toList_some, Option.toList_none, List.cons_append, List.nil_append, mset_at, mset_ne, mset_2, mset_mset, Nat.reduceLT, Nat.reduceAdd, G_rest, ra_1, ra_2, ra_3, nI_clamp, h1, h2, G_0, G_60]
theorem lc_clear (hi : i + 6 ≤ L) (hL : L < 5000) (hI : INV b u v A) : ∃ b2 u2 v2 A2, ev 220 255 (lsL i) [] (G b u v A (N, s, L, xs)) = ev 220 1322 (lsL i) [] (G b2 u2 v2 A2 (N, s, L, xs)) ∧ INV b2 u2 v2 A2 := by
  obtain ⟨r, b1, u1, A1, b2, u2, v2, A2, h1, h2, h3⟩ := k_clear  b u v A (N, s, L, xs) hI
  refine ⟨b2, u2, v2, A2, ?_, h3⟩
  unfold lsL
  simp (disch := first | omega | assumption | exact Nat.le_of_ble_eq_true rfl) only [m220, e220_255, e220_255f, e220_256, e220_259, e220_259f, e220_260, e220_263, e220_266, e220_267b0, e220_267b1, Bool.false_eq_true, Bool.true_eq_false, gfK, pfK, lnK, isC, alK_n, asK_n, List.getElem?_cons_zero, List.getElem?_cons_succ, List.set_cons_zero, List.set_cons_succ, List.length_cons, List.length_nil, ↓reduceIte, if_true, if_false, eq_self, and_true, true_and, and_self, Option.bind_some, Option.bind_none, Option.toList_some, Option.toList_none, List.cons_append, List.nil_append, mset_at, mset_ne, mset_2, mset_mset, Nat.reduceLT, Nat.reduceAdd, G_rest, nI_clamp, h1, h2, G_0, G_60]
theorem lc_world (hi : i + 6 ≤ L) (hL : L < 5000) (hI : INV b u v A) : ∃ b2 u2 v2 A2, ev 220 268 (lsL i) [] (G b u v A (N, s, L, xs)) = ev 220 1322 (lsL i) [] (G b2 u2 v2 A2 (N, s, L, xs)) ∧ INV b2 u2 v2 A2 := by
  obtain ⟨r, b1, u1, A1, b2, u2, v2, A2, h1, h2, h3⟩ := k_world  b u v A (N, s, L, xs) hI
  refine ⟨b2, u2, v2, A2, ?_, h3⟩
  unfold lsL
  simp (disch := first | omega | assumption | exact Nat.le_of_ble_eq_true rfl) only [m220, e220_268, e220_268f, e220_269, e220_272, e220_272f, e220_273, e220_276, e220_279, e220_280b0, e220_280b1, Bool.false_eq_true, Bool.true_eq_false, gfK, pfK, lnK, isC, alK_n, asK_n, List.getElem?_cons_zero, List.getElem?_cons_succ, List.set_cons_zero, List.set_cons_succ, List.length_cons, List.length_nil, ↓reduceIte, if_true, if_false, eq_self, and_true, true_and, and_self, Option.bind_some, Option.bind_none, Option.toList_some, Option.toList_none, List.cons_append, List.nil_append, mset_at, mset_ne, mset_2, mset_mset, Nat.reduceLT, Nat.reduceAdd, G_rest, nI_clamp, h1, h2, G_0, G_60]
theorem lc_set (hi : i + 6 ≤ L) (hL : L < 5000) (hI : INV b u v A) : ∃ b2 u2 v2 A2, ev 220 281 (lsL i) [] (G b u v A (N, s, L, xs)) = ev 220 1322 (lsL i) [] (G b2 u2 v2 A2 (N, s, L, xs)) ∧ INV b2 u2 v2 A2 := by
  obtain ⟨r, b1, u1, A1, b2, u2, v2, A2, h1, h2, h3⟩ := k_set (xs (i + 1)) b u v A (N, s, L, xs) hI
  refine ⟨b2, u2, v2, A2, ?_, h3⟩
  have p1 := lx_in (b := b) (u := u) (v := v) (A := A) (N := N) (s := s) (xs := xs) (j := 1) hi hL (by omega)
  have q1 := lx_in (b := b1) (u := u1) (v := v) (A := A1) (N := N) (s := s) (xs := xs) (j := 1) hi hL (by omega)
  unfold lsL
  simp (disch := first | omega | assumption | exact Nat.le_of_ble_eq_true rfl) only [m220, e220_281, e220_281f, e220_282, e220_282f, e220_283, e220_284, e220_285, e220_286, e220_286f, e220_287, e220_290, e220_290f, e220_291, e220_291f, e220_292, e220_293, e220_294, e220_295, e220_295f, e220_296, e220_299, e220_302, e220_303b0, e220_303b1, Bool.false_eq_true, Bool.true_eq_false, gfK, pfK, lnK, isC, alK_n, asK_n, List.getElem?_cons_zero, List.getElem?_cons_succ, List.set_cons_zero, List.set_cons_succ, List.length_cons, List.length_nil, ↓reduceIte, if_true, if_false, eq_self, and_true, true_and, and_self, Option.bind_some, Option.bind_none, Option.toList_some, Option.toList_none, List.cons_append, List.nil_append, mset_at, mset_ne, mset_2, mset_mset, Nat.reduceLT, Nat.reduceAdd, G_rest, ra_1, nI_clamp, h1, h2, G_0, G_60]
theorem lc_lot (hi : i + 6 ≤ L) (hL : L < 5000) (hI : INV b u v A) : ∃ b2 u2 v2 A2, ev 220 304 (lsL i) [] (G b u v A (N, s, L, xs)) = ev 220 1322 (lsL i) [] (G b2 u2 v2 A2 (N, s, L, xs)) ∧ INV b2 u2 v2 A2 := by
  obtain ⟨r, b1, u1, A1, b2, u2, v2, A2, h1, h2, h3⟩ := k_lot (xs (i + 1)) (xs (i + 2)) (xs (i + 3)) b u v A (N, s, L, xs) hI
  refine ⟨b2, u2, v2, A2, ?_, h3⟩
  have p1 := lx_in (b := b) (u := u) (v := v) (A := A) (N := N) (s := s) (xs := xs) (j := 1) hi hL (by omega)
  have q1 := lx_in (b := b1) (u := u1) (v := v) (A := A1) (N := N) (s := s) (xs := xs) (j := 1) hi hL (by omega)
  have p2 := lx_in (b := b) (u := u) (v := v) (A := A) (N := N) (s := s) (xs := xs) (j := 2) hi hL (by omega)
  have q2 := lx_in (b := b1) (u := u1) (v := v) (A := A1) (N := N) (s := s) (xs := xs) (j := 2) hi hL (by omega)
  have p3 := lx_in (b := b) (u := u) (v := v) (A := A) (N := N) (s := s) (xs := xs) (j := 3) hi hL (by omega)
  have q3 := lx_in (b := b1) (u := u1) (v := v) (A := A1) (N := N) (s := s) (xs := xs) (j := 3) hi hL (by omega)
  unfold lsL
  simp (disch := first | omega | assumption | exact Nat.le_of_ble_eq_true rfl) only [m220, e220_304, e220_304f, e220_305, e220_305f, e220_306, e220_307, e220_308, e220_309, e220_309f, e220_310, e220_310f, e220_311, e220_312, e220_313, e220_314, e220_314f, e220_315, e220_315f, e220_316, e220_317, e220_318, e220_319, e220_319f, e220_320, e220_323, e220_323f, e220_324, e220_324f, e220_325, e220_326, e220_327, e220_328, e220_328f, e220_329, e220_329f, e220_330, e220_331, e220_332, e220_333, e220_333f, e220_334, e220_334f, e220_335, e220_336, e220_337, e220_338, e220_338f, e220_339, e220_342, e220_345, e220_346b0, e220_346b1, Bool.false_eq_true, Bool.true_eq_false, gfK, pfK, lnK, isC, alK_n, asK_n, List.getElem?_cons_zero, List.getElem?_cons_succ, List.set_cons_zero, List.set_cons_succ, List.length_cons, List.length_nil, ↓reduceIte, if_true, if_false, eq_self, and_true, true_and, and_self, Option.bind_some, Option.bind_none, Option.toList_some, Option.toList_none, List.cons_append, List.nil_append, mset_at, mset_ne, mset_2, mset_mset, Nat.reduceLT, Nat.reduceAdd, G_rest, ra_1, ra_2, ra_3, nI_clamp, h1, h2, G_0, G_60]
theorem lc_let (hi : i + 6 ≤ L) (hL : L < 5000) (hI : INV b u v A) : ∃ b2 u2 v2 A2, ev 220 347 (lsL i) [] (G b u v A (N, s, L, xs)) = ev 220 1322 (lsL i) [] (G b2 u2 v2 A2 (N, s, L, xs)) ∧ INV b2 u2 v2 A2 := by
  obtain ⟨r, b1, u1, A1, b2, u2, v2, A2, h1, h2, h3⟩ := k_let (xs (i + 1)) b u v A (N, s, L, xs) hI
  refine ⟨b2, u2, v2, A2, ?_, h3⟩
  have p1 := lx_in (b := b) (u := u) (v := v) (A := A) (N := N) (s := s) (xs := xs) (j := 1) hi hL (by omega)
  have q1 := lx_in (b := b1) (u := u1) (v := v) (A := A1) (N := N) (s := s) (xs := xs) (j := 1) hi hL (by omega)
  unfold lsL
  simp (disch := first | omega | assumption | exact Nat.le_of_ble_eq_true rfl) only [m220, e220_347, e220_347f, e220_348, e220_348f, e220_349, e220_350, e220_351, e220_352, e220_352f, e220_353, e220_356, e220_356f, e220_357, e220_357f, e220_358, e220_359, e220_360, e220_361, e220_361f, e220_362, e220_365, e220_368, e220_369b0, e220_369b1, Bool.false_eq_true, Bool.true_eq_false, gfK, pfK, lnK, isC, alK_n, asK_n, List.getElem?_cons_zero, List.getElem?_cons_succ, List.set_cons_zero, List.set_cons_succ, List.length_cons, List.length_nil, ↓reduceIte, if_true, if_false, eq_self, and_true, true_and, and_self, Option.bind_some, Option.bind_none, Option.toList_some, Option.toList_none, List.cons_append, List.nil_append, mset_at, mset_ne, mset_2, mset_mset, Nat.reduceLT, Nat.reduceAdd, G_rest, ra_1, nI_clamp, h1, h2, G_0, G_60]
theorem lc_doom (hi : i + 6 ≤ L) (hL : L < 5000) (hI : INV b u v A) : ∃ b2 u2 v2 A2, ev 220 370 (lsL i) [] (G b u v A (N, s, L, xs)) = ev 220 1322 (lsL i) [] (G b2 u2 v2 A2 (N, s, L, xs)) ∧ INV b2 u2 v2 A2 := by
  obtain ⟨r, b1, u1, A1, b2, u2, v2, A2, h1, h2, h3⟩ := k_doom (xs (i + 1)) b u v A (N, s, L, xs) hI
  refine ⟨b2, u2, v2, A2, ?_, h3⟩
  have p1 := lx_in (b := b) (u := u) (v := v) (A := A) (N := N) (s := s) (xs := xs) (j := 1) hi hL (by omega)
  have q1 := lx_in (b := b1) (u := u1) (v := v) (A := A1) (N := N) (s := s) (xs := xs) (j := 1) hi hL (by omega)
  unfold lsL
  simp (disch := first | omega | assumption | exact Nat.le_of_ble_eq_true rfl) only [m220, e220_370, e220_370f, e220_371, e220_371f, e220_372, e220_373, e220_374, e220_375, e220_375f, e220_376, e220_379, e220_379f, e220_380, e220_380f, e220_381, e220_382, e220_383, e220_384, e220_384f, e220_385, e220_388, e220_391, e220_392b0, e220_392b1, Bool.false_eq_true, Bool.true_eq_false, gfK, pfK, lnK, isC, alK_n, asK_n, List.getElem?_cons_zero, List.getElem?_cons_succ, List.set_cons_zero, List.set_cons_succ, List.length_cons, List.length_nil, ↓reduceIte, if_true, if_false, eq_self, and_true, true_and, and_self, Option.bind_some, Option.bind_none, Option.toList_some, Option.toList_none, List.cons_append, List.nil_append, mset_at, mset_ne, mset_2, mset_mset, Nat.reduceLT, Nat.reduceAdd, G_rest, ra_1, nI_clamp, h1, h2, G_0, G_60]
theorem lc_sure (hi : i + 6 ≤ L) (hL : L < 5000) (hI : INV b u v A) : ∃ b2 u2 v2 A2, ev 220 393 (lsL i) [] (G b u v A (N, s, L, xs)) = ev 220 1322 (lsL i) [] (G b2 u2 v2 A2 (N, s, L, xs)) ∧ INV b2 u2 v2 A2 := by
  obtain ⟨r, b1, u1, A1, b2, u2, v2, A2, h1, h2, h3⟩ := k_sure (xs (i + 1)) (xs (i + 2)) (xs (i + 3)) b u v A (N, s, L, xs) hI
  refine ⟨b2, u2, v2, A2, ?_, h3⟩
  have p1 := lx_in (b := b) (u := u) (v := v) (A := A) (N := N) (s := s) (xs := xs) (j := 1) hi hL (by omega)
  have q1 := lx_in (b := b1) (u := u1) (v := v) (A := A1) (N := N) (s := s) (xs := xs) (j := 1) hi hL (by omega)
  have p2 := lx_in (b := b) (u := u) (v := v) (A := A) (N := N) (s := s) (xs := xs) (j := 2) hi hL (by omega)
  have q2 := lx_in (b := b1) (u := u1) (v := v) (A := A1) (N := N) (s := s) (xs := xs) (j := 2) hi hL (by omega)
  have p3 := lx_in (b := b) (u := u) (v := v) (A := A) (N := N) (s := s) (xs := xs) (j := 3) hi hL (by omega)
  have q3 := lx_in (b := b1) (u := u1) (v := v) (A := A1) (N := N) (s := s) (xs := xs) (j := 3) hi hL (by omega)
  unfold lsL
  simp (disch := first | omega | assumption | exact Nat.le_of_ble_eq_true rfl) only [m220, e220_393, e220_393f, e220_394, e220_394f, e220_395, e220_396, e220_397, e220_398, e220_398f, e220_399, e220_399f, e220_400, e220_401, e220_402, e220_403, e220_403f, e220_404, e220_404f, e220_405, e220_406, e220_407, e220_408, e220_408f, e220_409, e220_412, e220_412f, e220_413, e220_413f, e220_414, e220_415, e220_416, e220_417, e220_417f, e220_418, e220_418f, e220_419, e220_420, e220_421, e220_422, e220_422f, e220_423, e220_423f, e220_424, e220_425, e220_426, e220_427, e220_427f, e220_428, e220_431, e220_434, e220_435b0, e220_435b1, Bool.false_eq_true, Bool.true_eq_false, gfK, pfK, lnK, isC, alK_n, asK_n, List.getElem?_cons_zero, List.getElem?_cons_succ, List.set_cons_zero, List.set_cons_succ, List.length_cons, List.length_nil, ↓reduceIte, if_true, if_false, eq_self, and_true, true_and, and_self, Option.bind_some, Option.bind_none, Option.toList_some, Option.toList_none, List.cons_append, List.nil_append, mset_at, mset_ne, mset_2, mset_mset, Nat.reduceLT, Nat.reduceAdd, G_rest, ra_1, ra_2, ra_3, nI_clamp, h1, h2, G_0, G_60]
theorem lc_instead (hi : i + 6 ≤ L) (hL : L < 5000) (hI : INV b u v A) : ∃ b2 u2 v2 A2, ev 220 436 (lsL i) [] (G b u v A (N, s, L, xs)) = ev 220 1322 (lsL i) [] (G b2 u2 v2 A2 (N, s, L, xs)) ∧ INV b2 u2 v2 A2 := by
  obtain ⟨r, b1, u1, A1, b2, u2, v2, A2, h1, h2, h3⟩ := k_instead (xs (i + 1)) (xs (i + 2)) b u v A (N, s, L, xs) hI
  refine ⟨b2, u2, v2, A2, ?_, h3⟩
  have p1 := lx_in (b := b) (u := u) (v := v) (A := A) (N := N) (s := s) (xs := xs) (j := 1) hi hL (by omega)
  have q1 := lx_in (b := b1) (u := u1) (v := v) (A := A1) (N := N) (s := s) (xs := xs) (j := 1) hi hL (by omega)
  have p2 := lx_in (b := b) (u := u) (v := v) (A := A) (N := N) (s := s) (xs := xs) (j := 2) hi hL (by omega)
  have q2 := lx_in (b := b1) (u := u1) (v := v) (A := A1) (N := N) (s := s) (xs := xs) (j := 2) hi hL (by omega)
  unfold lsL
  simp (disch := first | omega | assumption | exact Nat.le_of_ble_eq_true rfl) only [m220, e220_436, e220_436f, e220_437, e220_437f, e220_438, e220_439, e220_440, e220_441, e220_441f, e220_442, e220_442f, e220_443, e220_444, e220_445, e220_446, e220_446f, e220_447, e220_450, e220_450f, e220_451, e220_451f, e220_452, e220_453, e220_454, e220_455, e220_455f, e220_456, e220_456f, e220_457, e220_458, e220_459, e220_460, e220_460f, e220_461, e220_464, e220_467, e220_468b0, e220_468b1, Bool.false_eq_true, Bool.true_eq_false, gfK, pfK, lnK, isC, alK_n, asK_n, List.getElem?_cons_zero, List.getElem?_cons_succ, List.set_cons_zero, List.set_cons_succ, List.length_cons, List.length_nil, ↓reduceIte, if_true, if_false, eq_self, and_true, true_and, and_self, Option.bind_some, Option.bind_none, Option.toList_some, Option.toList_none, List.cons_append, List.nil_append, mset_at, mset_ne, mset_2, mset_mset, Nat.reduceLT, Nat.reduceAdd, G_rest, ra_1, ra_2, nI_clamp, h1, h2, G_0, G_60]
theorem lc_doing (hi : i + 6 ≤ L) (hL : L < 5000) (hI : INV b u v A) : ∃ b2 u2 v2 A2, ev 220 469 (lsL i) [] (G b u v A (N, s, L, xs)) = ev 220 1322 (lsL i) [] (G b2 u2 v2 A2 (N, s, L, xs)) ∧ INV b2 u2 v2 A2 := by
  obtain ⟨r, b1, u1, A1, b2, u2, v2, A2, h1, h2, h3⟩ := k_doing (xs (i + 1)) (xs (i + 2)) (xs (i + 3)) b u v A (N, s, L, xs) hI
  refine ⟨b2, u2, v2, A2, ?_, h3⟩
  have p1 := lx_in (b := b) (u := u) (v := v) (A := A) (N := N) (s := s) (xs := xs) (j := 1) hi hL (by omega)
  have q1 := lx_in (b := b1) (u := u1) (v := v) (A := A1) (N := N) (s := s) (xs := xs) (j := 1) hi hL (by omega)
  have p2 := lx_in (b := b) (u := u) (v := v) (A := A) (N := N) (s := s) (xs := xs) (j := 2) hi hL (by omega)
  have q2 := lx_in (b := b1) (u := u1) (v := v) (A := A1) (N := N) (s := s) (xs := xs) (j := 2) hi hL (by omega)
  have p3 := lx_in (b := b) (u := u) (v := v) (A := A) (N := N) (s := s) (xs := xs) (j := 3) hi hL (by omega)
  have q3 := lx_in (b := b1) (u := u1) (v := v) (A := A1) (N := N) (s := s) (xs := xs) (j := 3) hi hL (by omega)
  unfold lsL
  simp (disch := first | omega | assumption | exact Nat.le_of_ble_eq_true rfl) only [m220, e220_469, e220_469f, e220_470, e220_470f, e220_471, e220_472, e220_473, e220_474, e220_474f, e220_475, e220_475f, e220_476, e220_477, e220_478, e220_479, e220_479f, e220_480, e220_480f, e220_481, e220_482, e220_483, e220_484, e220_484f, e220_485, e220_488, e220_488f, e220_489, e220_489f, e220_490, e220_491, e220_492, e220_493, e220_493f, e220_494, e220_494f, e220_495, e220_496, e220_497, e220_498, e220_498f, e220_499, e220_499f, e220_500, e220_501, e220_502, e220_503, e220_503f, e220_504, e220_507, e220_510, e220_511b0, e220_511b1, Bool.false_eq_true, Bool.true_eq_false, gfK, pfK, lnK, isC, alK_n, asK_n, List.getElem?_cons_zero, List.getElem?_cons_succ, List.set_cons_zero, List.set_cons_succ, List.length_cons, List.length_nil, ↓reduceIte, if_true, if_false, eq_self, and_true, true_and, and_self, Option.bind_some, Option.bind_none, Option.toList_some, Option.toList_none, List.cons_append, List.nil_append, mset_at, mset_ne, mset_2, mset_mset, Nat.reduceLT, Nat.reduceAdd, G_rest, ra_1, ra_2, ra_3, nI_clamp, h1, h2, G_0, G_60]
theorem lc_due (hi : i + 6 ≤ L) (hL : L < 5000) (hI : INV b u v A) : ∃ b2 u2 v2 A2, ev 220 512 (lsL i) [] (G b u v A (N, s, L, xs)) = ev 220 1322 (lsL i) [] (G b2 u2 v2 A2 (N, s, L, xs)) ∧ INV b2 u2 v2 A2 := by
  obtain ⟨r, b1, u1, A1, b2, u2, v2, A2, h1, h2, h3⟩ := k_due (xs (i + 1)) (xs (i + 2)) b u v A (N, s, L, xs) hI
  refine ⟨b2, u2, v2, A2, ?_, h3⟩
  have p1 := lx_in (b := b) (u := u) (v := v) (A := A) (N := N) (s := s) (xs := xs) (j := 1) hi hL (by omega)
  have q1 := lx_in (b := b1) (u := u1) (v := v) (A := A1) (N := N) (s := s) (xs := xs) (j := 1) hi hL (by omega)
  have p2 := lx_in (b := b) (u := u) (v := v) (A := A) (N := N) (s := s) (xs := xs) (j := 2) hi hL (by omega)
  have q2 := lx_in (b := b1) (u := u1) (v := v) (A := A1) (N := N) (s := s) (xs := xs) (j := 2) hi hL (by omega)
  unfold lsL
  simp (disch := first | omega | assumption | exact Nat.le_of_ble_eq_true rfl) only [m220, e220_512, e220_512f, e220_513, e220_513f, e220_514, e220_515, e220_516, e220_517, e220_517f, e220_518, e220_518f, e220_519, e220_520, e220_521, e220_522, e220_522f, e220_523, e220_526, e220_526f, e220_527, e220_527f, e220_528, e220_529, e220_530, e220_531, e220_531f, e220_532, e220_532f, e220_533, e220_534, e220_535, e220_536, e220_536f, e220_537, e220_540, e220_543, e220_544b0, e220_544b1, Bool.false_eq_true, Bool.true_eq_false, gfK, pfK, lnK, isC, alK_n, asK_n, List.getElem?_cons_zero, List.getElem?_cons_succ, List.set_cons_zero, List.set_cons_succ, List.length_cons, List.length_nil, ↓reduceIte, if_true, if_false, eq_self, and_true, true_and, and_self, Option.bind_some, Option.bind_none, Option.toList_some, Option.toList_none, List.cons_append, List.nil_append, mset_at, mset_ne, mset_2, mset_mset, Nat.reduceLT, Nat.reduceAdd, G_rest, ra_1, ra_2, nI_clamp, h1, h2, G_0, G_60]
theorem lc_master (hi : i + 6 ≤ L) (hL : L < 5000) (hI : INV b u v A) : ∃ b2 u2 v2 A2, ev 220 545 (lsL i) [] (G b u v A (N, s, L, xs)) = ev 220 1322 (lsL i) [] (G b2 u2 v2 A2 (N, s, L, xs)) ∧ INV b2 u2 v2 A2 := by
  obtain ⟨r, b1, u1, A1, b2, u2, v2, A2, h1, h2, h3⟩ := k_master (xs (i + 1)) (xs (i + 2)) b u v A (N, s, L, xs) hI
  refine ⟨b2, u2, v2, A2, ?_, h3⟩
  have p1 := lx_in (b := b) (u := u) (v := v) (A := A) (N := N) (s := s) (xs := xs) (j := 1) hi hL (by omega)
  have q1 := lx_in (b := b1) (u := u1) (v := v) (A := A1) (N := N) (s := s) (xs := xs) (j := 1) hi hL (by omega)
  have p2 := lx_in (b := b) (u := u) (v := v) (A := A) (N := N) (s := s) (xs := xs) (j := 2) hi hL (by omega)
  have q2 := lx_in (b := b1) (u := u1) (v := v) (A := A1) (N := N) (s := s) (xs := xs) (j := 2) hi hL (by omega)
  unfold lsL
  simp (disch := first | omega | assumption | exact Nat.le_of_ble_eq_true rfl) only [m220, e220_545, e220_545f, e220_546, e220_546f, e220_547, e220_548, e220_549, e220_550, e220_550f, e220_551, e220_551f, e220_552, e220_553, e220_554, e220_555, e220_555f, e220_556, e220_559, e220_559f, e220_560, e220_560f, e220_561, e220_562, e220_563, e220_564, e220_564f, e220_565, e220_565f, e220_566, e220_567, e220_568, e220_569, e220_569f, e220_570, e220_573, e220_576, e220_577b0, e220_577b1, Bool.false_eq_true, Bool.true_eq_false, gfK, pfK, lnK, isC, alK_n, asK_n, List.getElem?_cons_zero, List.getElem?_cons_succ, List.set_cons_zero, List.set_cons_succ, List.length_cons, List.length_nil, ↓reduceIte, if_true, if_false, eq_self, and_true, true_and, and_self, Option.bind_some, Option.bind_none, Option.toList_some, Option.toList_none, List.cons_append, List.nil_append, mset_at, mset_ne, mset_2, mset_mset, Nat.reduceLT, Nat.reduceAdd, G_rest, ra_1, ra_2, nI_clamp, h1, h2, G_0, G_60]
theorem lc_limit (hi : i + 6 ≤ L) (hL : L < 5000) (hI : INV b u v A) : ∃ b2 u2 v2 A2, ev 220 578 (lsL i) [] (G b u v A (N, s, L, xs)) = ev 220 1322 (lsL i) [] (G b2 u2 v2 A2 (N, s, L, xs)) ∧ INV b2 u2 v2 A2 := by
  obtain ⟨r, b1, u1, A1, b2, u2, v2, A2, h1, h2, h3⟩ := k_limit (xs (i + 1)) (xs (i + 2)) b u v A (N, s, L, xs) hI
  refine ⟨b2, u2, v2, A2, ?_, h3⟩
  have p1 := lx_in (b := b) (u := u) (v := v) (A := A) (N := N) (s := s) (xs := xs) (j := 1) hi hL (by omega)
  have q1 := lx_in (b := b1) (u := u1) (v := v) (A := A1) (N := N) (s := s) (xs := xs) (j := 1) hi hL (by omega)
  have p2 := lx_in (b := b) (u := u) (v := v) (A := A) (N := N) (s := s) (xs := xs) (j := 2) hi hL (by omega)
  have q2 := lx_in (b := b1) (u := u1) (v := v) (A := A1) (N := N) (s := s) (xs := xs) (j := 2) hi hL (by omega)
  unfold lsL
  simp (disch := first | omega | assumption | exact Nat.le_of_ble_eq_true rfl) only [m220, e220_578, e220_578f, e220_579, e220_579f, e220_580, e220_581, e220_582, e220_583, e220_583f, e220_584, e220_584f, e220_585, e220_586, e220_587, e220_588, e220_588f, e220_589, e220_592, e220_592f, e220_593, e220_593f, e220_594, e220_595, e220_596, e220_597, e220_597f, e220_598, e220_598f, e220_599, e220_600, e220_601, e220_602, e220_602f, e220_603, e220_606, e220_609, e220_610b0, e220_610b1, Bool.false_eq_true, Bool.true_eq_false, gfK, pfK, lnK, isC, alK_n, asK_n, List.getElem?_cons_zero, List.getElem?_cons_succ, List.set_cons_zero, List.set_cons_succ, List.length_cons, List.length_nil, ↓reduceIte, if_true, if_false, eq_self, and_true, true_and, and_self, Option.bind_some, Option.bind_none, Option.toList_some, Option.toList_none, List.cons_append, List.nil_append, mset_at, mset_ne, mset_2, mset_mset, Nat.reduceLT, Nat.reduceAdd, G_rest, ra_1, ra_2, nI_clamp, h1, h2, G_0, G_60]
theorem lc_machine (hi : i + 6 ≤ L) (hL : L < 5000) (hI : INV b u v A) : ∃ b2 u2 v2 A2, ev 220 611 (lsL i) [] (G b u v A (N, s, L, xs)) = ev 220 1322 (lsL i) [] (G b2 u2 v2 A2 (N, s, L, xs)) ∧ INV b2 u2 v2 A2 := by
  obtain ⟨r, b1, u1, A1, b2, u2, v2, A2, h1, h2, h3⟩ := k_machine (xs (i + 1)) (xs (i + 2)) b u v A (N, s, L, xs) hI
  refine ⟨b2, u2, v2, A2, ?_, h3⟩
  have p1 := lx_in (b := b) (u := u) (v := v) (A := A) (N := N) (s := s) (xs := xs) (j := 1) hi hL (by omega)
  have q1 := lx_in (b := b1) (u := u1) (v := v) (A := A1) (N := N) (s := s) (xs := xs) (j := 1) hi hL (by omega)
  have p2 := lx_in (b := b) (u := u) (v := v) (A := A) (N := N) (s := s) (xs := xs) (j := 2) hi hL (by omega)
  have q2 := lx_in (b := b1) (u := u1) (v := v) (A := A1) (N := N) (s := s) (xs := xs) (j := 2) hi hL (by omega)
  unfold lsL
  simp (disch := first | omega | assumption | exact Nat.le_of_ble_eq_true rfl) only [m220, e220_611, e220_611f, e220_612, e220_612f, e220_613, e220_614, e220_615, e220_616, e220_616f, e220_617, e220_617f, e220_618, e220_619, e220_620, e220_621, e220_621f, e220_622, e220_625, e220_625f, e220_626, e220_626f, e220_627, e220_628, e220_629, e220_630, e220_630f, e220_631, e220_631f, e220_632, e220_633, e220_634, e220_635, e220_635f, e220_636, e220_639, e220_642, e220_643b0, e220_643b1, Bool.false_eq_true, Bool.true_eq_false, gfK, pfK, lnK, isC, alK_n, asK_n, List.getElem?_cons_zero, List.getElem?_cons_succ, List.set_cons_zero, List.set_cons_succ, List.length_cons, List.length_nil, ↓reduceIte, if_true, if_false, eq_self, and_true, true_and, and_self, Option.bind_some, Option.bind_none, Option.toList_some, Option.toList_none, List.cons_append, List.nil_append, mset_at, mset_ne, mset_2, mset_mset, Nat.reduceLT, Nat.reduceAdd, G_rest, ra_1, ra_2, nI_clamp, h1, h2, G_0, G_60]
theorem lc_give (hi : i + 6 ≤ L) (hL : L < 5000) (hI : INV b u v A) : ∃ b2 u2 v2 A2, ev 220 644 (lsL i) [] (G b u v A (N, s, L, xs)) = ev 220 1322 (lsL i) [] (G b2 u2 v2 A2 (N, s, L, xs)) ∧ INV b2 u2 v2 A2 := by
  obtain ⟨r, b1, u1, A1, b2, u2, v2, A2, h1, h2, h3⟩ := k_give (xs (i + 1)) (xs (i + 2)) (xs (i + 3)) (xs (i + 4)) (xs (i + 5)) b u v A (N, s, L, xs) hI
  refine ⟨b2, u2, v2, A2, ?_, h3⟩
  have p1 := lx_in (b := b) (u := u) (v := v) (A := A) (N := N) (s := s) (xs := xs) (j := 1) hi hL (by omega)
  have q1 := lx_in (b := b1) (u := u1) (v := v) (A := A1) (N := N) (s := s) (xs := xs) (j := 1) hi hL (by omega)
  have p2 := lx_in (b := b) (u := u) (v := v) (A := A) (N := N) (s := s) (xs := xs) (j := 2) hi hL (by omega)
  have q2 := lx_in (b := b1) (u := u1) (v := v) (A := A1) (N := N) (s := s) (xs := xs) (j := 2) hi hL (by omega)
  have p3 := lx_in (b := b) (u := u) (v := v) (A := A) (N := N) (s := s) (xs := xs) (j := 3) hi hL (by omega)
  have q3 := lx_in (b := b1) (u := u1) (v := v) (A := A1) (N := N) (s := s) (xs := xs) (j := 3) hi hL (by omega)
  have p4 := lx_in (b := b) (u := u) (v := v) (A := A) (N := N) (s := s) (xs := xs) (j := 4) hi hL (by omega)
  have q4 := lx_in (b := b1) (u := u1) (v := v) (A := A1) (N := N) (s := s) (xs := xs) (j := 4) hi hL (by omega)
  have p5 := lx_in (b := b) (u := u) (v := v) (A := A) (N := N) (s := s) (xs := xs) (j := 5) hi hL (by omega)
  have q5 := lx_in (b := b1) (u := u1) (v := v) (A := A1) (N := N) (s := s) (xs := xs) (j := 5) hi hL (by omega)
  unfold lsL
  simp (disch := first | omega | assumption | exact Nat.le_of_ble_eq_true rfl) only [m220, e220_644, e220_644f, e220_645, e220_645f, e220_646, e220_647, e220_648, e220_649, e220_649f, e220_650, e220_650f, e220_651, e220_652, e220_653, e220_654, e220_654f, e220_655, e220_655f, e220_656, e220_657, e220_658, e220_659, e220_659f, e220_660, e220_660f, e220_661, e220_662, e220_663, e220_664, e220_664f, e220_665, e220_665f, e220_666, e220_667, e220_668, e220_669, e220_669f, e220_670, e220_673, e220_673f, e220_674, e220_674f, e220_675, e220_676, e220_677, e220_678, e220_678f, e220_679, e220_679f, e220_680, e220_681, e220_682, e220_683, e220_683f, e220_684, e220_684f, e220_685, e220_686, e220_687, e220_688, e220_688f, e220_689, e220_689f, e220_690, e220_691, e220_692, e220_693, e220_693f, e220_694, e220_694f, e220_695, e220_696, e220_697, e220_698, e220_698f, e220_699, e220_702, e220_705, e220_706b0, e220_706b1, Bool.false_eq_true, Bool.true_eq_false, gfK, pfK, lnK, isC, alK_n, asK_n, List.getElem?_cons_zero, List.getElem?_cons_succ, List.set_cons_zero, List.set_cons_succ, List.length_cons, List.length_nil, ↓reduceIte, if_true, if_false, eq_self, and_true, true_and, and_self, Option.bind_some, Option.bind_none, Option.toList_some, Option.toList_none, List.cons_append, List.nil_append, mset_at, mset_ne, mset_2, mset_mset, Nat.reduceLT, Nat.reduceAdd, G_rest, ra_1, ra_2, ra_3, ra_4, ra_5, nI_clamp, h1, h2, G_0, G_60]
theorem lc_lend (hi : i + 6 ≤ L) (hL : L < 5000) (hI : INV b u v A) : ∃ b2 u2 v2 A2, ev 220 707 (lsL i) [] (G b u v A (N, s, L, xs)) = ev 220 1322 (lsL i) [] (G b2 u2 v2 A2 (N, s, L, xs)) ∧ INV b2 u2 v2 A2 := by
  obtain ⟨r, b1, u1, A1, b2, u2, v2, A2, h1, h2, h3⟩ := k_lend (xs (i + 1)) (xs (i + 2)) (xs (i + 3)) (xs (i + 4)) (xs (i + 5)) b u v A (N, s, L, xs) hI
  refine ⟨b2, u2, v2, A2, ?_, h3⟩
  have p1 := lx_in (b := b) (u := u) (v := v) (A := A) (N := N) (s := s) (xs := xs) (j := 1) hi hL (by omega)
  have q1 := lx_in (b := b1) (u := u1) (v := v) (A := A1) (N := N) (s := s) (xs := xs) (j := 1) hi hL (by omega)
  have p2 := lx_in (b := b) (u := u) (v := v) (A := A) (N := N) (s := s) (xs := xs) (j := 2) hi hL (by omega)
  have q2 := lx_in (b := b1) (u := u1) (v := v) (A := A1) (N := N) (s := s) (xs := xs) (j := 2) hi hL (by omega)
  have p3 := lx_in (b := b) (u := u) (v := v) (A := A) (N := N) (s := s) (xs := xs) (j := 3) hi hL (by omega)
  have q3 := lx_in (b := b1) (u := u1) (v := v) (A := A1) (N := N) (s := s) (xs := xs) (j := 3) hi hL (by omega)
  have p4 := lx_in (b := b) (u := u) (v := v) (A := A) (N := N) (s := s) (xs := xs) (j := 4) hi hL (by omega)
  have q4 := lx_in (b := b1) (u := u1) (v := v) (A := A1) (N := N) (s := s) (xs := xs) (j := 4) hi hL (by omega)
  have p5 := lx_in (b := b) (u := u) (v := v) (A := A) (N := N) (s := s) (xs := xs) (j := 5) hi hL (by omega)
  have q5 := lx_in (b := b1) (u := u1) (v := v) (A := A1) (N := N) (s := s) (xs := xs) (j := 5) hi hL (by omega)
  unfold lsL
  simp (disch := first | omega | assumption | exact Nat.le_of_ble_eq_true rfl) only [m220, e220_707, e220_707f, e220_708, e220_708f, e220_709, e220_710, e220_711, e220_712, e220_712f, e220_713, e220_713f, e220_714, e220_715, e220_716, e220_717, e220_717f, e220_718, e220_718f, e220_719, e220_720, e220_721, e220_722, e220_722f, e220_723, e220_723f, e220_724, e220_725, e220_726, e220_727, e220_727f, e220_728, e220_728f, e220_729, e220_730, e220_731, e220_732, e220_732f, e220_733, e220_736, e220_736f, e220_737, e220_737f, e220_738, e220_739, e220_740, e220_741, e220_741f, e220_742, e220_742f, e220_743, e220_744, e220_745, e220_746, e220_746f, e220_747, e220_747f, e220_748, e220_749, e220_750, e220_751, e220_751f, e220_752, e220_752f, e220_753, e220_754, e220_755, e220_756, e220_756f, e220_757, e220_757f, e220_758, e220_759, e220_760, e220_761, e220_761f, e220_762, e220_765, e220_768, e220_769b0, e220_769b1, Bool.false_eq_true, Bool.true_eq_false, gfK, pfK, lnK, isC, alK_n, asK_n, List.getElem?_cons_zero, List.getElem?_cons_succ, List.set_cons_zero, List.set_cons_succ, List.length_cons, List.length_nil, ↓reduceIte, if_true, if_false, eq_self, and_true, true_and, and_self, Option.bind_some, Option.bind_none, Option.toList_some, Option.toList_none, List.cons_append, List.nil_append, mset_at, mset_ne, mset_2, mset_mset, Nat.reduceLT, Nat.reduceAdd, G_rest, ra_1, ra_2, ra_3, ra_4, ra_5, nI_clamp, h1, h2, G_0, G_60]
theorem lc_withdraw (hi : i + 6 ≤ L) (hL : L < 5000) (hI : INV b u v A) : ∃ b2 u2 v2 A2, ev 220 770 (lsL i) [] (G b u v A (N, s, L, xs)) = ev 220 1322 (lsL i) [] (G b2 u2 v2 A2 (N, s, L, xs)) ∧ INV b2 u2 v2 A2 := by
  obtain ⟨r, b1, u1, A1, b2, u2, v2, A2, h1, h2, h3⟩ := k_withdraw (xs (i + 1)) b u v A (N, s, L, xs) hI
  refine ⟨b2, u2, v2, A2, ?_, h3⟩
  have p1 := lx_in (b := b) (u := u) (v := v) (A := A) (N := N) (s := s) (xs := xs) (j := 1) hi hL (by omega)
  have q1 := lx_in (b := b1) (u := u1) (v := v) (A := A1) (N := N) (s := s) (xs := xs) (j := 1) hi hL (by omega)
  unfold lsL
  simp (disch := first | omega | assumption | exact Nat.le_of_ble_eq_true rfl) only [m220, e220_770, e220_770f, e220_771, e220_771f, e220_772, e220_773, e220_774, e220_775, e220_775f, e220_776, e220_779, e220_779f, e220_780, e220_780f, e220_781, e220_782, e220_783, e220_784, e220_784f, e220_785, e220_788, e220_791, e220_792b0, e220_792b1, Bool.false_eq_true, Bool.true_eq_false, gfK, pfK, lnK, isC, alK_n, asK_n, List.getElem?_cons_zero, List.getElem?_cons_succ, List.set_cons_zero, List.set_cons_succ, List.length_cons, List.length_nil, ↓reduceIte, if_true, if_false, eq_self, and_true, true_and, and_self, Option.bind_some, Option.bind_none, Option.toList_some, Option.toList_none, List.cons_append, List.nil_append, mset_at, mset_ne, mset_2, mset_mset, Nat.reduceLT, Nat.reduceAdd, G_rest, ra_1, nI_clamp, h1, h2, G_0, G_60]
theorem lc_leave (hi : i + 6 ≤ L) (hL : L < 5000) (hI : INV b u v A) : ∃ b2 u2 v2 A2, ev 220 793 (lsL i) [] (G b u v A (N, s, L, xs)) = ev 220 1322 (lsL i) [] (G b2 u2 v2 A2 (N, s, L, xs)) ∧ INV b2 u2 v2 A2 := by
  obtain ⟨r, b1, u1, A1, b2, u2, v2, A2, h1, h2, h3⟩ := k_leave (xs (i + 1)) (xs (i + 2)) b u v A (N, s, L, xs) hI
  refine ⟨b2, u2, v2, A2, ?_, h3⟩
  have p1 := lx_in (b := b) (u := u) (v := v) (A := A) (N := N) (s := s) (xs := xs) (j := 1) hi hL (by omega)
  have q1 := lx_in (b := b1) (u := u1) (v := v) (A := A1) (N := N) (s := s) (xs := xs) (j := 1) hi hL (by omega)
  have p2 := lx_in (b := b) (u := u) (v := v) (A := A) (N := N) (s := s) (xs := xs) (j := 2) hi hL (by omega)
  have q2 := lx_in (b := b1) (u := u1) (v := v) (A := A1) (N := N) (s := s) (xs := xs) (j := 2) hi hL (by omega)
  unfold lsL
  simp (disch := first | omega | assumption | exact Nat.le_of_ble_eq_true rfl) only [m220, e220_793, e220_793f, e220_794, e220_794f, e220_795, e220_796, e220_797, e220_798, e220_798f, e220_799, e220_799f, e220_800, e220_801, e220_802, e220_803, e220_803f, e220_804, e220_807, e220_807f, e220_808, e220_808f, e220_809, e220_810, e220_811, e220_812, e220_812f, e220_813, e220_813f, e220_814, e220_815, e220_816, e220_817, e220_817f, e220_818, e220_821, e220_824, e220_825b0, e220_825b1, Bool.false_eq_true, Bool.true_eq_false, gfK, pfK, lnK, isC, alK_n, asK_n, List.getElem?_cons_zero, List.getElem?_cons_succ, List.set_cons_zero, List.set_cons_succ, List.length_cons, List.length_nil, ↓reduceIte, if_true, if_false, eq_self, and_true, true_and, and_self, Option.bind_some, Option.bind_none, Option.toList_some, Option.toList_none, List.cons_append, List.nil_append, mset_at, mset_ne, mset_2, mset_mset, Nat.reduceLT, Nat.reduceAdd, G_rest, ra_1, ra_2, nI_clamp, h1, h2, G_0, G_60]
theorem lc_yes (hi : i + 6 ≤ L) (hL : L < 5000) (hI : INV b u v A) : ∃ b2 u2 v2 A2, ev 220 826 (lsL i) [] (G b u v A (N, s, L, xs)) = ev 220 1322 (lsL i) [] (G b2 u2 v2 A2 (N, s, L, xs)) ∧ INV b2 u2 v2 A2 := by
  obtain ⟨r, b1, u1, A1, b2, u2, v2, A2, h1, h2, h3⟩ := k_yes (xs (i + 1)) b u v A (N, s, L, xs) hI
  refine ⟨b2, u2, v2, A2, ?_, h3⟩
  have p1 := lx_in (b := b) (u := u) (v := v) (A := A) (N := N) (s := s) (xs := xs) (j := 1) hi hL (by omega)
  have q1 := lx_in (b := b1) (u := u1) (v := v) (A := A1) (N := N) (s := s) (xs := xs) (j := 1) hi hL (by omega)
  unfold lsL
  simp (disch := first | omega | assumption | exact Nat.le_of_ble_eq_true rfl) only [m220, e220_826, e220_826f, e220_827, e220_827f, e220_828, e220_829, e220_830, e220_831, e220_831f, e220_832, e220_835, e220_835f, e220_836, e220_836f, e220_837, e220_838, e220_839, e220_840, e220_840f, e220_841, e220_844, e220_847, e220_848b0, e220_848b1, Bool.false_eq_true, Bool.true_eq_false, gfK, pfK, lnK, isC, alK_n, asK_n, List.getElem?_cons_zero, List.getElem?_cons_succ, List.set_cons_zero, List.set_cons_succ, List.length_cons, List.length_nil, ↓reduceIte, if_true, if_false, eq_self, and_true, true_and, and_self, Option.bind_some, Option.bind_none, Option.toList_some, Option.toList_none, List.cons_append, List.nil_append, mset_at, mset_ne, mset_2, mset_mset, Nat.reduceLT, Nat.reduceAdd, G_rest, ra_1, nI_clamp, h1, h2, G_0, G_60]
theorem lc_act (hi : i + 6 ≤ L) (hL : L < 5000) (hI : INV b u v A) : ∃ b2 u2 v2 A2, ev 220 849 (lsL i) [] (G b u v A (N, s, L, xs)) = ev 220 1322 (lsL i) [] (G b2 u2 v2 A2 (N, s, L, xs)) ∧ INV b2 u2 v2 A2 := by
  obtain ⟨r, b1, u1, A1, b2, u2, v2, A2, h1, h2, h3⟩ := k_act (xs (i + 1)) (xs (i + 2)) (xs (i + 3)) (xs (i + 4)) b u v A (N, s, L, xs) hI
  refine ⟨b2, u2, v2, A2, ?_, h3⟩
  have p1 := lx_in (b := b) (u := u) (v := v) (A := A) (N := N) (s := s) (xs := xs) (j := 1) hi hL (by omega)
  have q1 := lx_in (b := b1) (u := u1) (v := v) (A := A1) (N := N) (s := s) (xs := xs) (j := 1) hi hL (by omega)
  have p2 := lx_in (b := b) (u := u) (v := v) (A := A) (N := N) (s := s) (xs := xs) (j := 2) hi hL (by omega)
  have q2 := lx_in (b := b1) (u := u1) (v := v) (A := A1) (N := N) (s := s) (xs := xs) (j := 2) hi hL (by omega)
  have p3 := lx_in (b := b) (u := u) (v := v) (A := A) (N := N) (s := s) (xs := xs) (j := 3) hi hL (by omega)
  have q3 := lx_in (b := b1) (u := u1) (v := v) (A := A1) (N := N) (s := s) (xs := xs) (j := 3) hi hL (by omega)
  have p4 := lx_in (b := b) (u := u) (v := v) (A := A) (N := N) (s := s) (xs := xs) (j := 4) hi hL (by omega)
  have q4 := lx_in (b := b1) (u := u1) (v := v) (A := A1) (N := N) (s := s) (xs := xs) (j := 4) hi hL (by omega)
  unfold lsL
  simp (disch := first | omega | assumption | exact Nat.le_of_ble_eq_true rfl) only [m220, e220_849, e220_849f, e220_850, e220_850f, e220_851, e220_852, e220_853, e220_854, e220_854f, e220_855, e220_855f, e220_856, e220_857, e220_858, e220_859, e220_859f, e220_860, e220_860f, e220_861, e220_862, e220_863, e220_864, e220_864f, e220_865, e220_865f, e220_866, e220_867, e220_868, e220_869, e220_869f, e220_870, e220_873, e220_873f, e220_874, e220_874f, e220_875, e220_876, e220_877, e220_878, e220_878f, e220_879, e220_879f, e220_880, e220_881, e220_882, e220_883, e220_883f, e220_884, e220_884f, e220_885, e220_886, e220_887, e220_888, e220_888f, e220_889, e220_889f, e220_890, e220_891, e220_892, e220_893, e220_893f, e220_894, e220_897, e220_900, e220_901b0, e220_901b1, Bool.false_eq_true, Bool.true_eq_false, gfK, pfK, lnK, isC, alK_n, asK_n, List.getElem?_cons_zero, List.getElem?_cons_succ, List.set_cons_zero, List.set_cons_succ, List.length_cons, List.length_nil, ↓reduceIte, if_true, if_false, eq_self, and_true, true_and, and_self, Option.bind_some, Option.bind_none, Option.toList_some, Option.toList_none, List.cons_append, List.nil_append, mset_at, mset_ne, mset_2, mset_mset, Nat.reduceLT, Nat.reduceAdd, G_rest, ra_1, ra_2, ra_3, ra_4, nI_clamp, h1, h2, G_0, G_60]
theorem lc_undo (hi : i + 6 ≤ L) (hL : L < 5000) (hI : INV b u v A) : ∃ b2 u2 v2 A2, ev 220 902 (lsL i) [] (G b u v A (N, s, L, xs)) = ev 220 1322 (lsL i) [] (G b2 u2 v2 A2 (N, s, L, xs)) ∧ INV b2 u2 v2 A2 := by
  obtain ⟨r, b1, u1, A1, b2, u2, v2, A2, h1, h2, h3⟩ := k_undo (xs (i + 1)) b u v A (N, s, L, xs) hI
  refine ⟨b2, u2, v2, A2, ?_, h3⟩
  have p1 := lx_in (b := b) (u := u) (v := v) (A := A) (N := N) (s := s) (xs := xs) (j := 1) hi hL (by omega)
  have q1 := lx_in (b := b1) (u := u1) (v := v) (A := A1) (N := N) (s := s) (xs := xs) (j := 1) hi hL (by omega)
  unfold lsL
  simp (disch := first | omega | assumption | exact Nat.le_of_ble_eq_true rfl) only [m220, e220_902, e220_902f, e220_903, e220_903f, e220_904, e220_905, e220_906, e220_907, e220_907f, e220_908, e220_911, e220_911f, e220_912, e220_912f, e220_913, e220_914, e220_915, e220_916, e220_916f, e220_917, e220_920, e220_923, e220_924b0, e220_924b1, Bool.false_eq_true, Bool.true_eq_false, gfK, pfK, lnK, isC, alK_n, asK_n, List.getElem?_cons_zero, List.getElem?_cons_succ, List.set_cons_zero, List.set_cons_succ, List.length_cons, List.length_nil, ↓reduceIte, if_true, if_false, eq_self, and_true, true_and, and_self, Option.bind_some, Option.bind_none, Option.toList_some, Option.toList_none, List.cons_append, List.nil_append, mset_at, mset_ne, mset_2, mset_mset, Nat.reduceLT, Nat.reduceAdd, G_rest, ra_1, nI_clamp, h1, h2, G_0, G_60]
theorem lc_wait (hi : i + 6 ≤ L) (hL : L < 5000) (hI : INV b u v A) : ∃ b2 u2 v2 A2, ev 220 925 (lsL i) [] (G b u v A (N, s, L, xs)) = ev 220 1322 (lsL i) [] (G b2 u2 v2 A2 (N, s, L, xs)) ∧ INV b2 u2 v2 A2 := by
  obtain ⟨r, b1, u1, A1, b2, u2, v2, A2, h1, h2, h3⟩ := k_wait (xs (i + 1)) b u v A (N, s, L, xs) hI
  refine ⟨b2, u2, v2, A2, ?_, h3⟩
  have p1 := lx_in (b := b) (u := u) (v := v) (A := A) (N := N) (s := s) (xs := xs) (j := 1) hi hL (by omega)
  have q1 := lx_in (b := b1) (u := u1) (v := v) (A := A1) (N := N) (s := s) (xs := xs) (j := 1) hi hL (by omega)
  unfold lsL
  simp (disch := first | omega | assumption | exact Nat.le_of_ble_eq_true rfl) only [m220, e220_925, e220_925f, e220_926, e220_926f, e220_927, e220_928, e220_929, e220_930, e220_930f, e220_931, e220_934, e220_934f, e220_935, e220_935f, e220_936, e220_937, e220_938, e220_939, e220_939f, e220_940, e220_943, e220_946, e220_947b0, e220_947b1, Bool.false_eq_true, Bool.true_eq_false, gfK, pfK, lnK, isC, alK_n, asK_n, List.getElem?_cons_zero, List.getElem?_cons_succ, List.set_cons_zero, List.set_cons_succ, List.length_cons, List.length_nil, ↓reduceIte, if_true, if_false, eq_self, and_true, true_and, and_self, Option.bind_some, Option.bind_none, Option.toList_some, Option.toList_none, List.cons_append, List.nil_append, mset_at, mset_ne, mset_2, mset_mset, Nat.reduceLT, Nat.reduceAdd, G_rest, ra_1, nI_clamp, h1, h2, G_0, G_60]
theorem lc_line (hi : i + 6 ≤ L) (hL : L < 5000) (hI : INV b u v A) : ∃ b2 u2 v2 A2, ev 220 948 (lsL i) [] (G b u v A (N, s, L, xs)) = ev 220 1322 (lsL i) [] (G b2 u2 v2 A2 (N, s, L, xs)) ∧ INV b2 u2 v2 A2 := by
  obtain ⟨r, b1, u1, A1, b2, u2, v2, A2, h1, h2, h3⟩ := k_line (xs (i + 1)) (xs (i + 2)) b u v A (N, s, L, xs) hI
  refine ⟨b2, u2, v2, A2, ?_, h3⟩
  have p1 := lx_in (b := b) (u := u) (v := v) (A := A) (N := N) (s := s) (xs := xs) (j := 1) hi hL (by omega)
  have q1 := lx_in (b := b1) (u := u1) (v := v) (A := A1) (N := N) (s := s) (xs := xs) (j := 1) hi hL (by omega)
  have p2 := lx_in (b := b) (u := u) (v := v) (A := A) (N := N) (s := s) (xs := xs) (j := 2) hi hL (by omega)
  have q2 := lx_in (b := b1) (u := u1) (v := v) (A := A1) (N := N) (s := s) (xs := xs) (j := 2) hi hL (by omega)
  unfold lsL
  simp (disch := first | omega | assumption | exact Nat.le_of_ble_eq_true rfl) only [m220, e220_948, e220_948f, e220_949, e220_949f, e220_950, e220_951, e220_952, e220_953, e220_953f, e220_954, e220_954f, e220_955, e220_956, e220_957, e220_958, e220_958f, e220_959, e220_962, e220_962f, e220_963, e220_963f, e220_964, e220_965, e220_966, e220_967, e220_967f, e220_968, e220_968f, e220_969, e220_970, e220_971, e220_972, e220_972f, e220_973, e220_976, e220_979, e220_980b0, e220_980b1, Bool.false_eq_true, Bool.true_eq_false, gfK, pfK, lnK, isC, alK_n, asK_n, List.getElem?_cons_zero, List.getElem?_cons_succ, List.set_cons_zero, List.set_cons_succ, List.length_cons, List.length_nil, ↓reduceIte, if_true, if_false, eq_self, and_true, true_and, and_self, Option.bind_some, Option.bind_none, Option.toList_some, Option.toList_none, List.cons_append, List.nil_append, mset_at, mset_ne, mset_2, mset_mset, Nat.reduceLT, Nat.reduceAdd, G_rest, ra_1, ra_2, nI_clamp, h1, h2, G_0, G_60]
theorem lc_led (hi : i + 6 ≤ L) (hL : L < 5000) (hI : INV b u v A) : ∃ b2 u2 v2 A2, ev 220 981 (lsL i) [] (G b u v A (N, s, L, xs)) = ev 220 1322 (lsL i) [] (G b2 u2 v2 A2 (N, s, L, xs)) ∧ INV b2 u2 v2 A2 := by
  obtain ⟨r, b1, u1, A1, b2, u2, v2, A2, h1, h2, h3⟩ := k_led (xs (i + 1)) (xs (i + 2)) b u v A (N, s, L, xs) hI
  refine ⟨b2, u2, v2, A2, ?_, h3⟩
  have p1 := lx_in (b := b) (u := u) (v := v) (A := A) (N := N) (s := s) (xs := xs) (j := 1) hi hL (by omega)
  have q1 := lx_in (b := b1) (u := u1) (v := v) (A := A1) (N := N) (s := s) (xs := xs) (j := 1) hi hL (by omega)
  have p2 := lx_in (b := b) (u := u) (v := v) (A := A) (N := N) (s := s) (xs := xs) (j := 2) hi hL (by omega)
  have q2 := lx_in (b := b1) (u := u1) (v := v) (A := A1) (N := N) (s := s) (xs := xs) (j := 2) hi hL (by omega)
  unfold lsL
  simp (disch := first | omega | assumption | exact Nat.le_of_ble_eq_true rfl) only [m220, e220_981, e220_981f, e220_982, e220_982f, e220_983, e220_984, e220_985, e220_986, e220_986f, e220_987, e220_987f, e220_988, e220_989, e220_990, e220_991, e220_991f, e220_992, e220_995, e220_995f, e220_996, e220_996f, e220_997, e220_998, e220_999, e220_1000, e220_1000f, e220_1001, e220_1001f, e220_1002, e220_1003, e220_1004, e220_1005, e220_1005f, e220_1006, e220_1009, e220_1012, e220_1013b0, e220_1013b1, Bool.false_eq_true, Bool.true_eq_false, gfK, pfK, lnK, isC, alK_n, asK_n, List.getElem?_cons_zero, List.getElem?_cons_succ, List.set_cons_zero, List.set_cons_succ, List.length_cons, List.length_nil, ↓reduceIte, if_true, if_false, eq_self, and_true, true_and, and_self, Option.bind_some, Option.bind_none, Option.toList_some, Option.toList_none, List.cons_append, List.nil_append, mset_at, mset_ne, mset_2, mset_mset, Nat.reduceLT, Nat.reduceAdd, G_rest, ra_1, ra_2, nI_clamp, h1, h2, G_0, G_60]
theorem lc_about (hi : i + 6 ≤ L) (hL : L < 5000) (hI : INV b u v A) : ∃ b2 u2 v2 A2, ev 220 1014 (lsL i) [] (G b u v A (N, s, L, xs)) = ev 220 1322 (lsL i) [] (G b2 u2 v2 A2 (N, s, L, xs)) ∧ INV b2 u2 v2 A2 := by
  obtain ⟨r, b1, u1, A1, b2, u2, v2, A2, h1, h2, h3⟩ := k_about (xs (i + 1)) (xs (i + 2)) b u v A (N, s, L, xs) hI
  refine ⟨b2, u2, v2, A2, ?_, h3⟩
  have p1 := lx_in (b := b) (u := u) (v := v) (A := A) (N := N) (s := s) (xs := xs) (j := 1) hi hL (by omega)
  have q1 := lx_in (b := b1) (u := u1) (v := v) (A := A1) (N := N) (s := s) (xs := xs) (j := 1) hi hL (by omega)
  have p2 := lx_in (b := b) (u := u) (v := v) (A := A) (N := N) (s := s) (xs := xs) (j := 2) hi hL (by omega)
  have q2 := lx_in (b := b1) (u := u1) (v := v) (A := A1) (N := N) (s := s) (xs := xs) (j := 2) hi hL (by omega)
  unfold lsL
  simp (disch := first | omega | assumption | exact Nat.le_of_ble_eq_true rfl) only [m220, e220_1014, e220_1014f, e220_1015, e220_1015f, e220_1016, e220_1017, e220_1018, e220_1019, e220_1019f, e220_1020, e220_1020f, e220_1021, e220_1022, e220_1023, e220_1024, e220_1024f, e220_1025, e220_1028, e220_1028f, e220_1029, e220_1029f, e220_1030, e220_1031, e220_1032, e220_1033, e220_1033f, e220_1034, e220_1034f, e220_1035, e220_1036, e220_1037, e220_1038, e220_1038f, e220_1039, e220_1042, e220_1045, e220_1046b0, e220_1046b1, Bool.false_eq_true, Bool.true_eq_false, gfK, pfK, lnK, isC, alK_n, asK_n, List.getElem?_cons_zero, List.getElem?_cons_succ, List.set_cons_zero, List.set_cons_succ, List.length_cons, List.length_nil, ↓reduceIte, if_true, if_false, eq_self, and_true, true_and, and_self, Option.bind_some, Option.bind_none, Option.toList_some, Option.toList_none, List.cons_append, List.nil_append, mset_at, mset_ne, mset_2, mset_mset, Nat.reduceLT, Nat.reduceAdd, G_rest, ra_1, ra_2, nI_clamp, h1, h2, G_0, G_60]
theorem lc_budget (hi : i + 6 ≤ L) (hL : L < 5000) (hI : INV b u v A) : ∃ b2 u2 v2 A2, ev 220 1047 (lsL i) [] (G b u v A (N, s, L, xs)) = ev 220 1322 (lsL i) [] (G b2 u2 v2 A2 (N, s, L, xs)) ∧ INV b2 u2 v2 A2 := by
  obtain ⟨r, b1, u1, A1, b2, u2, v2, A2, h1, h2, h3⟩ := k_budget (xs (i + 1)) (xs (i + 2)) b u v A (N, s, L, xs) hI
  refine ⟨b2, u2, v2, A2, ?_, h3⟩
  have p1 := lx_in (b := b) (u := u) (v := v) (A := A) (N := N) (s := s) (xs := xs) (j := 1) hi hL (by omega)
  have q1 := lx_in (b := b1) (u := u1) (v := v) (A := A1) (N := N) (s := s) (xs := xs) (j := 1) hi hL (by omega)
  have p2 := lx_in (b := b) (u := u) (v := v) (A := A) (N := N) (s := s) (xs := xs) (j := 2) hi hL (by omega)
  have q2 := lx_in (b := b1) (u := u1) (v := v) (A := A1) (N := N) (s := s) (xs := xs) (j := 2) hi hL (by omega)
  unfold lsL
  simp (disch := first | omega | assumption | exact Nat.le_of_ble_eq_true rfl) only [m220, e220_1047, e220_1047f, e220_1048, e220_1048f, e220_1049, e220_1050, e220_1051, e220_1052, e220_1052f, e220_1053, e220_1053f, e220_1054, e220_1055, e220_1056, e220_1057, e220_1057f, e220_1058, e220_1061, e220_1061f, e220_1062, e220_1062f, e220_1063, e220_1064, e220_1065, e220_1066, e220_1066f, e220_1067, e220_1067f, e220_1068, e220_1069, e220_1070, e220_1071, e220_1071f, e220_1072, e220_1075, e220_1078, e220_1079b0, e220_1079b1, Bool.false_eq_true, Bool.true_eq_false, gfK, pfK, lnK, isC, alK_n, asK_n, List.getElem?_cons_zero, List.getElem?_cons_succ, List.set_cons_zero, List.set_cons_succ, List.length_cons, List.length_nil, ↓reduceIte, if_true, if_false, eq_self, and_true, true_and, and_self, Option.bind_some, Option.bind_none, Option.toList_some, Option.toList_none, List.cons_append, List.nil_append, mset_at, mset_ne, mset_2, mset_mset, Nat.reduceLT, Nat.reduceAdd, G_rest, ra_1, ra_2, nI_clamp, h1, h2, G_0, G_60]
theorem lc_round (hi : i + 6 ≤ L) (hL : L < 5000) (hI : INV b u v A) : ∃ b2 u2 v2 A2, ev 220 1080 (lsL i) [] (G b u v A (N, s, L, xs)) = ev 220 1322 (lsL i) [] (G b2 u2 v2 A2 (N, s, L, xs)) ∧ INV b2 u2 v2 A2 := by
  obtain ⟨r, b1, u1, A1, b2, u2, v2, A2, h1, h2, h3⟩ := k_round (xs (i + 1)) b u v A (N, s, L, xs) hI
  refine ⟨b2, u2, v2, A2, ?_, h3⟩
  have p1 := lx_in (b := b) (u := u) (v := v) (A := A) (N := N) (s := s) (xs := xs) (j := 1) hi hL (by omega)
  have q1 := lx_in (b := b1) (u := u1) (v := v) (A := A1) (N := N) (s := s) (xs := xs) (j := 1) hi hL (by omega)
  unfold lsL
  simp (disch := first | omega | assumption | exact Nat.le_of_ble_eq_true rfl) only [m220, e220_1080, e220_1080f, e220_1081, e220_1081f, e220_1082, e220_1083, e220_1084, e220_1085, e220_1085f, e220_1086, e220_1089, e220_1089f, e220_1090, e220_1090f, e220_1091, e220_1092, e220_1093, e220_1094, e220_1094f, e220_1095, e220_1098, e220_1101, e220_1102b0, e220_1102b1, Bool.false_eq_true, Bool.true_eq_false, gfK, pfK, lnK, isC, alK_n, asK_n, List.getElem?_cons_zero, List.getElem?_cons_succ, List.set_cons_zero, List.set_cons_succ, List.length_cons, List.length_nil, ↓reduceIte, if_true, if_false, eq_self, and_true, true_and, and_self, Option.bind_some, Option.bind_none, Option.toList_some, Option.toList_none, List.cons_append, List.nil_append, mset_at, mset_ne, mset_2, mset_mset, Nat.reduceLT, Nat.reduceAdd, G_rest, ra_1, nI_clamp, h1, h2, G_0, G_60]
theorem lc_odd (hi : i + 6 ≤ L) (hL : L < 5000) (hI : INV b u v A) : ∃ b2 u2 v2 A2, ev 220 1103 (lsL i) [] (G b u v A (N, s, L, xs)) = ev 220 1322 (lsL i) [] (G b2 u2 v2 A2 (N, s, L, xs)) ∧ INV b2 u2 v2 A2 := by
  obtain ⟨r, b1, u1, A1, b2, u2, v2, A2, h1, h2, h3⟩ := k_odd (xs (i + 1)) (xs (i + 2)) (xs (i + 3)) b u v A (N, s, L, xs) hI
  refine ⟨b2, u2, v2, A2, ?_, h3⟩
  have p1 := lx_in (b := b) (u := u) (v := v) (A := A) (N := N) (s := s) (xs := xs) (j := 1) hi hL (by omega)
  have q1 := lx_in (b := b1) (u := u1) (v := v) (A := A1) (N := N) (s := s) (xs := xs) (j := 1) hi hL (by omega)
  have p2 := lx_in (b := b) (u := u) (v := v) (A := A) (N := N) (s := s) (xs := xs) (j := 2) hi hL (by omega)
  have q2 := lx_in (b := b1) (u := u1) (v := v) (A := A1) (N := N) (s := s) (xs := xs) (j := 2) hi hL (by omega)
  have p3 := lx_in (b := b) (u := u) (v := v) (A := A) (N := N) (s := s) (xs := xs) (j := 3) hi hL (by omega)
  have q3 := lx_in (b := b1) (u := u1) (v := v) (A := A1) (N := N) (s := s) (xs := xs) (j := 3) hi hL (by omega)
  unfold lsL
  simp (disch := first | omega | assumption | exact Nat.le_of_ble_eq_true rfl) only [m220, e220_1103, e220_1103f, e220_1104, e220_1104f, e220_1105, e220_1106, e220_1107, e220_1108, e220_1108f, e220_1109, e220_1109f, e220_1110, e220_1111, e220_1112, e220_1113, e220_1113f, e220_1114, e220_1114f, e220_1115, e220_1116, e220_1117, e220_1118, e220_1118f, e220_1119, e220_1122, e220_1122f, e220_1123, e220_1123f, e220_1124, e220_1125, e220_1126, e220_1127, e220_1127f, e220_1128, e220_1128f, e220_1129, e220_1130, e220_1131, e220_1132, e220_1132f, e220_1133, e220_1133f, e220_1134, e220_1135, e220_1136, e220_1137, e220_1137f, e220_1138, e220_1141, e220_1142, e220_1145, e220_1146b0, e220_1146b1, Bool.false_eq_true, Bool.true_eq_false, gfK, pfK, lnK, isC, alK_n, asK_n, List.getElem?_cons_zero, List.getElem?_cons_succ, List.set_cons_zero, List.set_cons_succ, List.length_cons, List.length_nil, ↓reduceIte, if_true, if_false, eq_self, and_true, true_and, and_self, Option.bind_some, Option.bind_none, Option.toList_some, Option.toList_none, List.cons_append, List.nil_append, mset_at, mset_ne, mset_2, mset_mset, Nat.reduceLT, Nat.reduceAdd, G_rest, ra_1, ra_2, ra_3, lg_cmp_self, nI_clamp, h1, h2, G_0, G_60]
theorem lc_wish (hi : i + 6 ≤ L) (hL : L < 5000) (hI : INV b u v A) : ∃ b2 u2 v2 A2, ev 220 1147 (lsL i) [] (G b u v A (N, s, L, xs)) = ev 220 1322 (lsL i) [] (G b2 u2 v2 A2 (N, s, L, xs)) ∧ INV b2 u2 v2 A2 := by
  obtain ⟨r, b1, u1, A1, b2, u2, v2, A2, h1, h2, h3⟩ := k_wish (xs (i + 1)) (xs (i + 2)) b u v A (N, s, L, xs) hI
  refine ⟨b2, u2, v2, A2, ?_, h3⟩
  have p1 := lx_in (b := b) (u := u) (v := v) (A := A) (N := N) (s := s) (xs := xs) (j := 1) hi hL (by omega)
  have q1 := lx_in (b := b1) (u := u1) (v := v) (A := A1) (N := N) (s := s) (xs := xs) (j := 1) hi hL (by omega)
  have p2 := lx_in (b := b) (u := u) (v := v) (A := A) (N := N) (s := s) (xs := xs) (j := 2) hi hL (by omega)
  have q2 := lx_in (b := b1) (u := u1) (v := v) (A := A1) (N := N) (s := s) (xs := xs) (j := 2) hi hL (by omega)
  unfold lsL
  simp (disch := first | omega | assumption | exact Nat.le_of_ble_eq_true rfl) only [m220, e220_1147, e220_1147f, e220_1148, e220_1148f, e220_1149, e220_1150, e220_1151, e220_1152, e220_1152f, e220_1153, e220_1153f, e220_1154, e220_1155, e220_1156, e220_1157, e220_1157f, e220_1158, e220_1161, e220_1161f, e220_1162, e220_1162f, e220_1163, e220_1164, e220_1165, e220_1166, e220_1166f, e220_1167, e220_1167f, e220_1168, e220_1169, e220_1170, e220_1171, e220_1171f, e220_1172, e220_1175, e220_1178, e220_1179b0, e220_1179b1, Bool.false_eq_true, Bool.true_eq_false, gfK, pfK, lnK, isC, alK_n, asK_n, List.getElem?_cons_zero, List.getElem?_cons_succ, List.set_cons_zero, List.set_cons_succ, List.length_cons, List.length_nil, ↓reduceIte, if_true, if_false, eq_self, and_true, true_and, and_self, Option.bind_some, Option.bind_none, Option.toList_some, Option.toList_none, List.cons_append, List.nil_append, mset_at, mset_ne, mset_2, mset_mset, Nat.reduceLT, Nat.reduceAdd, G_rest, ra_1, ra_2, nI_clamp, h1, h2, G_0, G_60]
theorem lc_wished (hi : i + 6 ≤ L) (hL : L < 5000) (hI : INV b u v A) : ∃ b2 u2 v2 A2, ev 220 1180 (lsL i) [] (G b u v A (N, s, L, xs)) = ev 220 1322 (lsL i) [] (G b2 u2 v2 A2 (N, s, L, xs)) ∧ INV b2 u2 v2 A2 := by
  obtain ⟨r, b1, u1, A1, b2, u2, v2, A2, h1, h2, h3⟩ := k_wished (xs (i + 1)) b u v A (N, s, L, xs) hI
  refine ⟨b2, u2, v2, A2, ?_, h3⟩
  have p1 := lx_in (b := b) (u := u) (v := v) (A := A) (N := N) (s := s) (xs := xs) (j := 1) hi hL (by omega)
  have q1 := lx_in (b := b1) (u := u1) (v := v) (A := A1) (N := N) (s := s) (xs := xs) (j := 1) hi hL (by omega)
  unfold lsL
  simp (disch := first | omega | assumption | exact Nat.le_of_ble_eq_true rfl) only [m220, e220_1180, e220_1180f, e220_1181, e220_1181f, e220_1182, e220_1183, e220_1184, e220_1185, e220_1185f, e220_1186, e220_1189, e220_1189f, e220_1190, e220_1190f, e220_1191, e220_1192, e220_1193, e220_1194, e220_1194f, e220_1195, e220_1198, e220_1201, e220_1202b0, e220_1202b1, Bool.false_eq_true, Bool.true_eq_false, gfK, pfK, lnK, isC, alK_n, asK_n, List.getElem?_cons_zero, List.getElem?_cons_succ, List.set_cons_zero, List.set_cons_succ, List.length_cons, List.length_nil, ↓reduceIte, if_true, if_false, eq_self, and_true, true_and, and_self, Option.bind_some, Option.bind_none, Option.toList_some, Option.toList_none, List.cons_append, List.nil_append, mset_at, mset_ne, mset_2, mset_mset, Nat.reduceLT, Nat.reduceAdd, G_rest, ra_1, nI_clamp, h1, h2, G_0, G_60]
theorem lc_quarrel (hi : i + 6 ≤ L) (hL : L < 5000) (hI : INV b u v A) : ∃ b2 u2 v2 A2, ev 220 1203 (lsL i) [] (G b u v A (N, s, L, xs)) = ev 220 1322 (lsL i) [] (G b2 u2 v2 A2 (N, s, L, xs)) ∧ INV b2 u2 v2 A2 := by
  obtain ⟨r, b1, u1, A1, b2, u2, v2, A2, h1, h2, h3⟩ := k_quarrel  b u v A (N, s, L, xs) hI
  refine ⟨b2, u2, v2, A2, ?_, h3⟩
  unfold lsL
  simp (disch := first | omega | assumption | exact Nat.le_of_ble_eq_true rfl) only [m220, e220_1203, e220_1203f, e220_1204, e220_1207, e220_1207f, e220_1208, e220_1211, e220_1214, e220_1215b0, e220_1215b1, Bool.false_eq_true, Bool.true_eq_false, gfK, pfK, lnK, isC, alK_n, asK_n, List.getElem?_cons_zero, List.getElem?_cons_succ, List.set_cons_zero, List.set_cons_succ, List.length_cons, List.length_nil, ↓reduceIte, if_true, if_false, eq_self, and_true, true_and, and_self, Option.bind_some, Option.bind_none, Option.toList_some, Option.toList_none, List.cons_append, List.nil_append, mset_at, mset_ne, mset_2, mset_mset, Nat.reduceLT, Nat.reduceAdd, G_rest, nI_clamp, h1, h2, G_0, G_60]
theorem lc_beside (hi : i + 6 ≤ L) (hL : L < 5000) (hI : INV b u v A) : ∃ b2 u2 v2 A2, ev 220 1216 (lsL i) [] (G b u v A (N, s, L, xs)) = ev 220 1322 (lsL i) [] (G b2 u2 v2 A2 (N, s, L, xs)) ∧ INV b2 u2 v2 A2 := by
  obtain ⟨r, b1, u1, A1, b2, u2, v2, A2, h1, h2, h3⟩ := k_beside (xs (i + 1)) b u v A (N, s, L, xs) hI
  refine ⟨b2, u2, v2, A2, ?_, h3⟩
  have p1 := lx_in (b := b) (u := u) (v := v) (A := A) (N := N) (s := s) (xs := xs) (j := 1) hi hL (by omega)
  have q1 := lx_in (b := b1) (u := u1) (v := v) (A := A1) (N := N) (s := s) (xs := xs) (j := 1) hi hL (by omega)
  unfold lsL
  simp (disch := first | omega | assumption | exact Nat.le_of_ble_eq_true rfl) only [m220, e220_1216, e220_1216f, e220_1217, e220_1217f, e220_1218, e220_1219, e220_1220, e220_1221, e220_1221f, e220_1222, e220_1225, e220_1225f, e220_1226, e220_1226f, e220_1227, e220_1228, e220_1229, e220_1230, e220_1230f, e220_1231, e220_1234, e220_1237, e220_1238b0, e220_1238b1, Bool.false_eq_true, Bool.true_eq_false, gfK, pfK, lnK, isC, alK_n, asK_n, List.getElem?_cons_zero, List.getElem?_cons_succ, List.set_cons_zero, List.set_cons_succ, List.length_cons, List.length_nil, ↓reduceIte, if_true, if_false, eq_self, and_true, true_and, and_self, Option.bind_some, Option.bind_none, Option.toList_some, Option.toList_none, List.cons_append, List.nil_append, mset_at, mset_ne, mset_2, mset_mset, Nat.reduceLT, Nat.reduceAdd, G_rest, ra_1, nI_clamp, h1, h2, G_0, G_60]
theorem lc_keep (hi : i + 6 ≤ L) (hL : L < 5000) (hI : INV b u v A) : ∃ b2 u2 v2 A2, ev 220 1239 (lsL i) [] (G b u v A (N, s, L, xs)) = ev 220 1322 (lsL i) [] (G b2 u2 v2 A2 (N, s, L, xs)) ∧ INV b2 u2 v2 A2 := by
  obtain ⟨r, b1, u1, A1, b2, u2, v2, A2, h1, h2, h3⟩ := k_keep (xs (i + 1)) b u v A (N, s, L, xs) hI
  refine ⟨b2, u2, v2, A2, ?_, h3⟩
  have p1 := lx_in (b := b) (u := u) (v := v) (A := A) (N := N) (s := s) (xs := xs) (j := 1) hi hL (by omega)
  have q1 := lx_in (b := b1) (u := u1) (v := v) (A := A1) (N := N) (s := s) (xs := xs) (j := 1) hi hL (by omega)
  unfold lsL
  simp (disch := first | omega | assumption | exact Nat.le_of_ble_eq_true rfl) only [m220, e220_1239, e220_1239f, e220_1240, e220_1240f, e220_1241, e220_1242, e220_1243, e220_1244, e220_1244f, e220_1245, e220_1248, e220_1248f, e220_1249, e220_1249f, e220_1250, e220_1251, e220_1252, e220_1253, e220_1253f, e220_1254, e220_1257, e220_1260, e220_1261b0, e220_1261b1, Bool.false_eq_true, Bool.true_eq_false, gfK, pfK, lnK, isC, alK_n, asK_n, List.getElem?_cons_zero, List.getElem?_cons_succ, List.set_cons_zero, List.set_cons_succ, List.length_cons, List.length_nil, ↓reduceIte, if_true, if_false, eq_self, and_true, true_and, and_self, Option.bind_some, Option.bind_none, Option.toList_some, Option.toList_none, List.cons_append, List.nil_append, mset_at, mset_ne, mset_2, mset_mset, Nat.reduceLT, Nat.reduceAdd, G_rest, ra_1, nI_clamp, h1, h2, G_0, G_60]
theorem lc_back (hi : i + 6 ≤ L) (hL : L < 5000) (hI : INV b u v A) : ∃ b2 u2 v2 A2, ev 220 1262 (lsL i) [] (G b u v A (N, s, L, xs)) = ev 220 1322 (lsL i) [] (G b2 u2 v2 A2 (N, s, L, xs)) ∧ INV b2 u2 v2 A2 := by
  obtain ⟨r, b1, u1, A1, b2, u2, v2, A2, h1, h2, h3⟩ := k_back (xs (i + 1)) b u v A (N, s, L, xs) hI
  refine ⟨b2, u2, v2, A2, ?_, h3⟩
  have p1 := lx_in (b := b) (u := u) (v := v) (A := A) (N := N) (s := s) (xs := xs) (j := 1) hi hL (by omega)
  have q1 := lx_in (b := b1) (u := u1) (v := v) (A := A1) (N := N) (s := s) (xs := xs) (j := 1) hi hL (by omega)
  unfold lsL
  simp (disch := first | omega | assumption | exact Nat.le_of_ble_eq_true rfl) only [m220, e220_1262, e220_1262f, e220_1263, e220_1263f, e220_1264, e220_1265, e220_1266, e220_1267, e220_1267f, e220_1268, e220_1271, e220_1271f, e220_1272, e220_1272f, e220_1273, e220_1274, e220_1275, e220_1276, e220_1276f, e220_1277, e220_1280, e220_1283, e220_1284b0, e220_1284b1, Bool.false_eq_true, Bool.true_eq_false, gfK, pfK, lnK, isC, alK_n, asK_n, List.getElem?_cons_zero, List.getElem?_cons_succ, List.set_cons_zero, List.set_cons_succ, List.length_cons, List.length_nil, ↓reduceIte, if_true, if_false, eq_self, and_true, true_and, and_self, Option.bind_some, Option.bind_none, Option.toList_some, Option.toList_none, List.cons_append, List.nil_append, mset_at, mset_ne, mset_2, mset_mset, Nat.reduceLT, Nat.reduceAdd, G_rest, ra_1, nI_clamp, h1, h2, G_0, G_60]
theorem lc_count (hi : i + 6 ≤ L) (hL : L < 5000) (hI : INV b u v A) : ∃ b2 u2 v2 A2, ev 220 1285 (lsL i) [] (G b u v A (N, s, L, xs)) = ev 220 1322 (lsL i) [] (G b2 u2 v2 A2 (N, s, L, xs)) ∧ INV b2 u2 v2 A2 := by
  obtain ⟨r, b1, u1, A1, b2, u2, v2, A2, h1, h2, h3⟩ := k_count (xs (i + 1)) b u v A (N, s, L, xs) hI
  refine ⟨b2, u2, v2, A2, ?_, h3⟩
  have p1 := lx_in (b := b) (u := u) (v := v) (A := A) (N := N) (s := s) (xs := xs) (j := 1) hi hL (by omega)
  have q1 := lx_in (b := b1) (u := u1) (v := v) (A := A1) (N := N) (s := s) (xs := xs) (j := 1) hi hL (by omega)
  unfold lsL
  simp (disch := first | omega | assumption | exact Nat.le_of_ble_eq_true rfl) only [m220, e220_1285, e220_1285f, e220_1286, e220_1286f, e220_1287, e220_1288, e220_1289, e220_1290, e220_1290f, e220_1291, e220_1294, e220_1294f, e220_1295, e220_1295f, e220_1296, e220_1297, e220_1298, e220_1299, e220_1299f, e220_1300, e220_1303, e220_1306, e220_1307b0, e220_1307b1, Bool.false_eq_true, Bool.true_eq_false, gfK, pfK, lnK, isC, alK_n, asK_n, List.getElem?_cons_zero, List.getElem?_cons_succ, List.set_cons_zero, List.set_cons_succ, List.length_cons, List.length_nil, ↓reduceIte, if_true, if_false, eq_self, and_true, true_and, and_self, Option.bind_some, Option.bind_none, Option.toList_some, Option.toList_none, List.cons_append, List.nil_append, mset_at, mset_ne, mset_2, mset_mset, Nat.reduceLT, Nat.reduceAdd, G_rest, ra_1, nI_clamp, h1, h2, G_0, G_60]
theorem lc_trace (hi : i + 6 ≤ L) (hL : L < 5000) (hI : INV b u v A) : ∃ b2 u2 v2 A2, ev 220 1308 (lsL i) [] (G b u v A (N, s, L, xs)) = ev 220 1322 (lsL i) [] (G b2 u2 v2 A2 (N, s, L, xs)) ∧ INV b2 u2 v2 A2 := by
  obtain ⟨r, b1, u1, A1, b2, u2, v2, A2, h1, h2, h3⟩ := k_trace  b u v A (N, s, L, xs) hI
  refine ⟨b2, u2, v2, A2, ?_, h3⟩
  unfold lsL
  simp (disch := first | omega | assumption | exact Nat.le_of_ble_eq_true rfl) only [m220, e220_1308, e220_1308f, e220_1309, e220_1312, e220_1312f, e220_1313, e220_1316, e220_1317, e220_1320, e220_1321b0, e220_1321b1, Bool.false_eq_true, Bool.true_eq_false, gfK, pfK, lnK, isC, alK_n, asK_n, List.getElem?_cons_zero, List.getElem?_cons_succ, List.set_cons_zero, List.set_cons_succ, List.length_cons, List.length_nil, ↓reduceIte, if_true, if_false, eq_self, and_true, true_and, and_self, Option.bind_some, Option.bind_none, Option.toList_some, Option.toList_none, List.cons_append, List.nil_append, mset_at, mset_ne, mset_2, mset_mset, Nat.reduceLT, Nat.reduceAdd, G_rest, lg_cmp_self, nI_clamp, h1, h2, G_0, G_60]
theorem ls_step (hi : i + 6 ≤ L) (hL : L < 5000) (hI : INV b u v A) : ∃ b2 u2 v2 A2, ev 220 27 (lsL i) [] (G b u v A (N, s, L, xs)) = ev 220 1322 (lsL i) [] (G b2 u2 v2 A2 (N, s, L, xs)) ∧ INV b2 u2 v2 A2 := by
  have p0 := lx_in0 (b := b) (u := u) (v := v) (A := A) (N := N) (s := s) (xs := xs) hi hL
  have e : ev 220 27 (lsL i) [] (G b u v A (N, s, L, xs)) = ev 220 33 (lsL i) [.int (xs i &&& 63)] (G b u v A (N, s, L, xs)) := by
    unfold lsL
    simp (disch := first | omega | assumption | exact Nat.le_of_ble_eq_true rfl) only [m220, e220_27, e220_27f, e220_28, e220_29, e220_29f, e220_30, e220_32, Bool.false_eq_true, Bool.true_eq_false, gfK, pfK, lnK, isC, alK_n, asK_n, List.getElem?_cons_zero, List.getElem?_cons_succ, List.set_cons_zero, List.set_cons_succ, List.length_cons, List.length_nil, ↓reduceIte, if_true, if_false, eq_self, and_true, true_and, and_self, Option.bind_some, Option.bind_none, Option.toList_some, Option.toList_none, List.cons_append, List.nil_append, mset_at, mset_ne, mset_2, mset_mset, Nat.reduceLT, Nat.reduceAdd, G_rest, nI_clamp]
  rw [e, e220_33]
  by_cases x0 : xs i &&& 63 = 0
  · rw [if_pos x0]
    exact lc_type hi hL hI
  rw [if_neg x0]
  by_cases x1 : xs i &&& 63 = 1
  · rw [if_pos x1]
    exact lc_clear hi hL hI
  rw [if_neg x1]
  by_cases x2 : xs i &&& 63 = 2
  · rw [if_pos x2]
    exact lc_world hi hL hI
  rw [if_neg x2]
  by_cases x3 : xs i &&& 63 = 3
  · rw [if_pos x3]
    exact lc_set hi hL hI
  rw [if_neg x3]
  by_cases x4 : xs i &&& 63 = 4
  · rw [if_pos x4]
    exact lc_lot hi hL hI
  rw [if_neg x4]
  by_cases x5 : xs i &&& 63 = 5
  · rw [if_pos x5]
    exact lc_let hi hL hI
  rw [if_neg x5]
  by_cases x6 : xs i &&& 63 = 6
  · rw [if_pos x6]
    exact lc_doom hi hL hI
  rw [if_neg x6]
  by_cases x7 : xs i &&& 63 = 7
  · rw [if_pos x7]
    exact lc_sure hi hL hI
  rw [if_neg x7]
  by_cases x8 : xs i &&& 63 = 8
  · rw [if_pos x8]
    exact lc_instead hi hL hI
  rw [if_neg x8]
  by_cases x9 : xs i &&& 63 = 9
  · rw [if_pos x9]
    exact lc_doing hi hL hI
  rw [if_neg x9]
  by_cases x10 : xs i &&& 63 = 10
  · rw [if_pos x10]
    exact lc_due hi hL hI
  rw [if_neg x10]
  by_cases x11 : xs i &&& 63 = 11
  · rw [if_pos x11]
    exact lc_master hi hL hI
  rw [if_neg x11]
  by_cases x12 : xs i &&& 63 = 12
  · rw [if_pos x12]
    exact lc_limit hi hL hI
  rw [if_neg x12]
  by_cases x13 : xs i &&& 63 = 13
  · rw [if_pos x13]
    exact lc_machine hi hL hI
  rw [if_neg x13]
  by_cases x14 : xs i &&& 63 = 14
  · rw [if_pos x14]
    exact lc_give hi hL hI
  rw [if_neg x14]
  by_cases x15 : xs i &&& 63 = 15
  · rw [if_pos x15]
    exact lc_lend hi hL hI
  rw [if_neg x15]
  by_cases x16 : xs i &&& 63 = 16
  · rw [if_pos x16]
    exact lc_withdraw hi hL hI
  rw [if_neg x16]
  by_cases x17 : xs i &&& 63 = 17
  · rw [if_pos x17]
    exact lc_leave hi hL hI
  rw [if_neg x17]
  by_cases x18 : xs i &&& 63 = 18
  · rw [if_pos x18]
    exact lc_yes hi hL hI
  rw [if_neg x18]
  by_cases x19 : xs i &&& 63 = 19
  · rw [if_pos x19]
    exact lc_act hi hL hI
  rw [if_neg x19]
  by_cases x20 : xs i &&& 63 = 20
  · rw [if_pos x20]
    exact lc_undo hi hL hI
  rw [if_neg x20]
  by_cases x21 : xs i &&& 63 = 21
  · rw [if_pos x21]
    exact lc_wait hi hL hI
  rw [if_neg x21]
  by_cases x22 : xs i &&& 63 = 22
  · rw [if_pos x22]
    exact lc_line hi hL hI
  rw [if_neg x22]
  by_cases x23 : xs i &&& 63 = 23
  · rw [if_pos x23]
    exact lc_led hi hL hI
  rw [if_neg x23]
  by_cases x24 : xs i &&& 63 = 24
  · rw [if_pos x24]
    exact lc_about hi hL hI
  rw [if_neg x24]
  by_cases x25 : xs i &&& 63 = 25
  · rw [if_pos x25]
    exact lc_budget hi hL hI
  rw [if_neg x25]
  by_cases x26 : xs i &&& 63 = 26
  · rw [if_pos x26]
    exact lc_round hi hL hI
  rw [if_neg x26]
  by_cases x27 : xs i &&& 63 = 27
  · rw [if_pos x27]
    exact lc_odd hi hL hI
  rw [if_neg x27]
  by_cases x28 : xs i &&& 63 = 28
  · rw [if_pos x28]
    exact lc_wish hi hL hI
  rw [if_neg x28]
  by_cases x29 : xs i &&& 63 = 29
  · rw [if_pos x29]
    exact lc_wished hi hL hI
  rw [if_neg x29]
  by_cases x30 : xs i &&& 63 = 30
  · rw [if_pos x30]
    exact lc_quarrel hi hL hI
  rw [if_neg x30]
  by_cases x31 : xs i &&& 63 = 31
  · rw [if_pos x31]
    exact lc_beside hi hL hI
  rw [if_neg x31]
  by_cases x32 : xs i &&& 63 = 32
  · rw [if_pos x32]
    exact lc_keep hi hL hI
  rw [if_neg x32]
  by_cases x33 : xs i &&& 63 = 33
  · rw [if_pos x33]
    exact lc_back hi hL hI
  rw [if_neg x33]
  by_cases x34 : xs i &&& 63 = 34
  · rw [if_pos x34]
    exact lc_count hi hL hI
  rw [if_neg x34]
  by_cases x35 : xs i &&& 63 = 35
  · rw [if_pos x35]
    exact lc_trace hi hL hI
  rw [if_neg x35]
  exact ⟨b, u, v, A, rfl, hI⟩
theorem le_6 (hL : L < 5000) (hi : i < 5000) : (nI L - 6 < nI i) ↔ L < i + 6 := by
  by_cases h : 6 ≤ L
  · rw [show (6 : Int32) = nI 6 from rfl, pk_sub h, nI_ltI (by omega) (by omega)]
    omega
  · have h1 : nI L - 6 < 0 := (by decide : ∀ k, k < 6 → nI k - 6 < 0) L (by omega)
    exact ⟨fun _ => by omega, fun _ => Int32.lt_of_lt_of_le h1 ((nI_0_le (n := i) (by omega)).mpr trivial)⟩
theorem ls_loop (hL : L < 4000) : ∀ (f i b : Nat) (u v : Int64) (A : Nat → Nat → Int32), L ≤ i + f → i < 4000 → INV b u v A → ∃ b2 u2 v2 A2, ev 220 18 (lsL i) [] (G b u v A (N, s, L, xs)) = some (some (.int 1), G b2 u2 v2 A2 (N, s, L, xs))
  | f, i, b, u, v, A, hf, hi, hI => by
    by_cases h : L < i + 6
    · refine ⟨b, u, v, A, ?_⟩
      have h6 := eq_true ((le_6 (by omega) (by omega)).2 h)
      have hLn : Int32.ofNat L = nI L := rfl
      unfold lsL
      rw [e220_18]
      simp (disch := first | omega | assumption | exact Nat.le_of_ble_eq_true rfl) only [m220, e220_19, e220_19f, e220_20, e220_20f, e220_21, e220_23, e220_24, Bool.false_eq_true, Bool.true_eq_false, gfK, pfK, lnK, isC, alK_n, asK_n, List.getElem?_cons_zero, List.getElem?_cons_succ, List.set_cons_zero, List.set_cons_succ, List.length_cons, List.length_nil, ↓reduceIte, if_true, if_false, eq_self, and_true, true_and, and_self, Option.bind_some, Option.bind_none, Option.toList_some, Option.toList_none, List.cons_append, List.nil_append, mset_at, mset_ne, mset_2, mset_mset, Nat.reduceLT, Nat.reduceAdd, G_rest, hLn, h6]
      simp (disch := first | omega | assumption | exact Nat.le_of_ble_eq_true rfl) only [m220, e220_1328, e220_1329b0, e220_1329b1, Bool.false_eq_true, Bool.true_eq_false, gfK, pfK, lnK, isC, alK_n, asK_n, List.getElem?_cons_zero, List.getElem?_cons_succ, List.set_cons_zero, List.set_cons_succ, List.length_cons, List.length_nil, ↓reduceIte, if_true, if_false, eq_self, and_true, true_and, and_self, Option.bind_some, Option.bind_none, Option.toList_some, Option.toList_none, List.cons_append, List.nil_append, mset_at, mset_ne, mset_2, mset_mset, Nat.reduceLT, Nat.reduceAdd, G_rest, nz1]
    · match f, hf with
      | 0, hf => exact absurd hf (by omega)
      | 1, hf => exact absurd hf (by omega)
      | 2, hf => exact absurd hf (by omega)
      | 3, hf => exact absurd hf (by omega)
      | 4, hf => exact absurd hf (by omega)
      | 5, hf => exact absurd hf (by omega)
      | f + 6, hf =>
        obtain ⟨b1, u1, v1, A1, h1, h2⟩ := ls_step (N := N) (s := s) (xs := xs) (show i + 6 ≤ L by omega) (by omega) hI
        obtain ⟨b2, u2, v2, A2, h3⟩ := ls_loop hL f (i + 6) b1 u1 v1 A1 (by omega) (by omega) h2
        refine ⟨b2, u2, v2, A2, ?_⟩
        have h6 := eq_false (fun q => h ((le_6 (by omega) (by omega)).1 q))
        have hLn : Int32.ofNat L = nI L := rfl
        have e1 : ev 220 18 (lsL i) [] (G b u v A (N, s, L, xs)) = ev 220 27 (lsL i) [] (G b u v A (N, s, L, xs)) := by
          unfold lsL
          rw [e220_18]
          simp (disch := first | omega | assumption | exact Nat.le_of_ble_eq_true rfl) only [m220, e220_19, e220_19f, e220_20, e220_20f, e220_21, e220_23, e220_24, Bool.false_eq_true, Bool.true_eq_false, gfK, pfK, lnK, isC, alK_n, asK_n, List.getElem?_cons_zero, List.getElem?_cons_succ, List.set_cons_zero, List.set_cons_succ, List.length_cons, List.length_nil, ↓reduceIte, if_true, if_false, eq_self, and_true, true_and, and_self, Option.bind_some, Option.bind_none, Option.toList_some, Option.toList_none, List.cons_append, List.nil_append, mset_at, mset_ne, mset_2, mset_mset, Nat.reduceLT, Nat.reduceAdd, G_rest, hLn, h6]
        have e2 : ev 220 1322 (lsL i) [] (G b1 u1 v1 A1 (N, s, L, xs)) = ev 220 18 (lsL (i + 6)) [] (G b1 u1 v1 A1 (N, s, L, xs)) := by
          unfold lsL
          simp (disch := first | omega | assumption | exact Nat.le_of_ble_eq_true rfl) only [m220, e220_1322i, e220_1322n, e220_1322r, e220_1325, Bool.false_eq_true, Bool.true_eq_false, gfK, pfK, lnK, isC, alK_n, asK_n, List.getElem?_cons_zero, List.getElem?_cons_succ, List.set_cons_zero, List.set_cons_succ, List.length_cons, List.length_nil, ↓reduceIte, if_true, if_false, eq_self, and_true, true_and, and_self, Option.bind_some, Option.bind_none, Option.toList_some, Option.toList_none, List.cons_append, List.nil_append, mset_at, mset_ne, mset_2, mset_mset, Nat.reduceLT, Nat.reduceAdd, ra_6]
        rw [e1, h1, e2, h3]
theorem e220_7f (y : UInt32) (o : Option Value) (x : Nat) (ls : mL) (st : List Value) (σ : mS) : ev 220 7 (some (.float y) :: o :: ls) (.ref x :: st) σ = ev 220 8 (some (.float y) :: some (.ref x) :: ls) st σ := e_astore1 k220_7 (Nat.le_add_left 2 ls.length)
/-- the law's whole run -/
theorem ls_all (hL : L < 4000) : ∃ b2 u2 v2 A2 s2, s2 ≤ 30000 ∧ evM 220 [.float 9] (HX [] [] 0 (L, xs)) = some (some (.int 1), G b2 u2 v2 A2 (73, s2, L, xs)) := by
  obtain ⟨A, s1, hs1, c1, c2, c3, c4, c5, c6⟩ := ci_all (s := 11) (sc := (L, xs))
  obtain ⟨E, s2, hs2, m1, m2⟩ := mi_all (s := s1 + 29) (sc := (L, xs)) c2 c3 c4 c5 c6
  obtain ⟨b2, u2, v2, A2, h⟩ := ls_loop (N := 73) (s := s2) (xs := xs) hL L 0 8 0 0 E (by omega) (by omega) m2
  refine ⟨b2, u2, v2, A2, s2, by omega, ?_⟩
  have h' : ev 220 18 [some (.float 9), some (.ref 0), some (.ref 60), some (.int 0)] [] (G 8 0 0 E (73, s2, L, xs)) = _ := h
  have n0 : (HX [] [] 0 (L, xs)).2.1 = 0 := rfl
  have c1' : evM 83 [.ref 0] (HX [] [.inr (7, [.null, .null, .null, .null, .null, .null, .null, .null, .null, .null, .long 0])] 11 (L, xs)) = some (none, HX (cellsC 8 0 0 A) [] s1 (L, xs)) := c1.trans (by rw [HX_Gc])
  have n60 : (HX (cellsC 8 0 0 A) [] s1 (L, xs)).2.1 = 60 := rfl
  simp (disch := first | omega | assumption | exact Nat.le_of_ble_eq_true rfl) only [m220, e220_0, e220_3i, e220_3r, e220_4, e220_7i, e220_7n, e220_7r, Bool.false_eq_true, Bool.true_eq_false, gfK, pfK, lnK, isC, alK_n, asK_n, List.getElem?_cons_zero, List.getElem?_cons_succ, List.set_cons_zero, List.set_cons_succ, List.length_cons, List.length_nil, ↓reduceIte, if_true, if_false, eq_self, and_true, true_and, and_self, Option.bind_some, Option.bind_none, Option.toList_some, Option.toList_none, List.cons_append, List.nil_append, mset_at, mset_ne, mset_2, mset_mset, Nat.reduceLT, Nat.reduceAdd, e220_7f, n0, HX_new, ct_7, cl_7, Nat.zero_add, c1']
  simp (disch := first | omega | assumption | exact Nat.le_of_ble_eq_true rfl) only [m220, e220_8, e220_11i, e220_11r, e220_12, e220_15i, e220_15n, e220_15r, e220_16, e220_17i, e220_17n, e220_17r, Bool.false_eq_true, Bool.true_eq_false, gfK, pfK, lnK, isC, alK_n, asK_n, List.getElem?_cons_zero, List.getElem?_cons_succ, List.set_cons_zero, List.set_cons_succ, List.length_cons, List.length_nil, ↓reduceIte, if_true, if_false, eq_self, and_true, true_and, and_self, Option.bind_some, Option.bind_none, Option.toList_some, Option.toList_none, List.cons_append, List.nil_append, mset_at, mset_ne, mset_2, mset_mset, Nat.reduceLT, Nat.reduceAdd, n60, HX_new, ct_8, cl_8, m1, h']
end LAWB
