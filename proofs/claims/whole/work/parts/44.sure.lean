/-! SURE on both sides. -/
/-- a greatest value, 0 if there is none -/
def mxF (val : Nat → Nat) : Nat → Nat
  | 0 => 0
  | n + 1 => if mxF val n < val n then val n else mxF val n
theorem mxF_le {val : Nat → Nat} : ∀ {n j : Nat}, j < n → val j ≤ mxF val n
  | n + 1, j, hj => by
    rw [mxF]
    by_cases h : j = n
    · subst h
      split <;> omega
    · have := mxF_le (val := val) (n := n) (j := j) (by omega)
      split <;> omega
theorem mxF_ub {val : Nat → Nat} {m : Nat} : ∀ {n : Nat}, (∀ j, j < n → val j ≤ m) → mxF val n ≤ m
  | 0, _ => Nat.zero_le m
  | n + 1, h => by
    have h1 := mxF_ub (val := val) (m := m) (n := n) (fun j hj => h j (by omega))
    have h2 := h n (by omega)
    rw [mxF]
    split <;> omega
/-- the model's sure of a way, by what its lots have -/
def sof (lc : Nat → Nat) (lt : Nat → Nat → Nat) (X : Nat → Int32) (k : Nat) : Int32 := if anyF (fun i => decide (X (lt k i) = -9)) (lc k) = true then -9 else nI (mxF (fun i => dv X (lt k i)) (lc k))
theorem dv_of {X : Nat → Int32} {t k : Nat} (hk : k < 2147483648) (h : X t = nI k) : dv X t = k := by
  unfold dv
  rw [h, nI_clamp (by omega)]
theorem sr_keep {lc : Nat → Nat} {lt : Nat → Nat → Nat} {sf set : Int32} {r s : Nat} (h : ¬ sr lc lt sf set r s = -9) : sr lc lt sf set (r + 1) s = sr lc lt sf set r s := by
  rw [sr, if_neg (fun g => h g.2.1)]
theorem sr_new {lc : Nat → Nat} {lt : Nat → Nat → Nat} {sf set : Int32} {r s : Nat} (h : sr lc lt sf set r s = -9) : sr lc lt sf set (r + 1) s = -9 ∨ sr lc lt sf set (r + 1) s = nI (r + 1) := by
  rw [sr]
  split
  · exact Or.inr rfl
  · exact Or.inl h
theorem sr_mono {lc : Nat → Nat} {lt : Nat → Nat → Nat} {sf set : Int32} {r s : Nat} (h : ¬ sr lc lt sf set r s = -9) : ∀ n, sr lc lt sf set (r + n) s = sr lc lt sf set r s
  | 0 => rfl
  | n + 1 => by
    have ih := sr_mono h n
    rw [show r + (n + 1) = (r + n) + 1 from rfl, sr_keep (by rw [ih]; exact h), ih]
theorem sr_at {lc : Nat → Nat} {lt : Nat → Nat → Nat} {sf set : Int32} {s k : Nat} : ∀ n, k + n < 1000 → sr lc lt sf set (k + n) s = nI k → sr lc lt sf set k s = nI k
  | 0, _, h => h
  | n + 1, hn, h => by
    refine sr_at n (by omega) ?_
    by_cases g : sr lc lt sf set (k + n) s = -9
    · rcases sr_new g with g1 | g1
      · rw [show k + (n + 1) = k + n + 1 from rfl, g1] at h
        exact absurd h.symm (nI_m9 (by omega))
      · rw [show k + (n + 1) = k + n + 1 from rfl, g1] at h
        have := nI_inj (by omega) (by omega) h
        omega
    · rw [← sr_keep g]
      exact h
section SURE
variable {b : Nat} {u v : Int64} {A : Nat → Nat → Int32} {τ : Nat × Nat × Nat × (Nat → Int32)} {lc : Nat → Nat} {lt : Nat → Nat → Nat} {s d i q r k : Nat} {S sf T x y z w0 : Int32} {σ : mS} {X f0 : Nat → Int32} {l5 l6 l7 l8 l9 : Option Value}
theorem W_sureOf (hb : b = 8 ∨ b = 19) (hR : WR b A lc lt) (hy : (y = 1 ∧ T = A b 3) ∨ (y = 2 ∧ T = A b 4)) (hs : s < 16) : evM 76 [.ref b, .int (nI s), .int y] (G b u v A τ) = some (some (.int (sr lc lt (A b 6) T 16 s)), (G b u v A τ)) := by
  obtain ⟨_, _, _, h1, h2⟩ := hR.2.2.2.2.2.2 s hs
  rcases hy with ⟨rfl, rfl⟩ | ⟨rfl, rfl⟩
  · simp (disch := first | omega | assumption | exact Nat.le_of_ble_eq_true rfl) only [m76, e76_0, e76_1, e76_4, e76_7, e76_9, e76_10, e76_11, e76_12, e76_15, e76_16, e76_19, e76_20, e76_21, e76_24, e76_25, e76_28, e76_29, e76_30, Bool.false_eq_true, Bool.true_eq_false, gfK, pfK, lnK, isC, alK_n, asK_n, List.getElem?_cons_zero, List.getElem?_cons_succ, List.set_cons_zero, List.set_cons_succ, List.length_cons, List.length_nil, ↓reduceIte, if_true, if_false, eq_self, and_true, true_and, and_self, Option.bind_some, Option.bind_none, Option.toList_some, Option.toList_none, List.cons_append, List.nil_append, mset_at, mset_ne, mset_2, mset_mset, Nat.reduceLT, Nat.reduceAdd, R_isState hs, nz1, G_W0 hb, G_W8 hb, h1]
  · simp (disch := first | omega | assumption | exact Nat.le_of_ble_eq_true rfl) only [m76, e76_0, e76_1, e76_4, e76_7, e76_9, e76_10, e76_11, e76_12, e76_15, e76_16, e76_19, e76_20, e76_21, e76_24, e76_25, e76_28, e76_29, e76_30, Bool.false_eq_true, Bool.true_eq_false, gfK, pfK, lnK, isC, alK_n, asK_n, List.getElem?_cons_zero, List.getElem?_cons_succ, List.set_cons_zero, List.set_cons_succ, List.length_cons, List.length_nil, ↓reduceIte, if_true, if_false, eq_self, and_true, true_and, and_self, Option.bind_some, Option.bind_none, Option.toList_some, Option.toList_none, List.cons_append, List.nil_append, mset_at, mset_ne, mset_2, mset_mset, Nat.reduceLT, Nat.reduceAdd, R_isState hs, nz1, show ¬ (2 : Int32) = 1 from by decide, G_W0 hb, G_W9 hb, h2]
/-- whether a state is beyond: in the set, but not so soon sure -/
def beyP (R : Nat → Int32) (S x : Int32) (s : Nat) : Bool := bi S s && !decide (0 ≤ R s ∧ R s ≤ x)
theorem within_loop (hb : b = 8 ∨ b = 19) (hR : WR b A lc lt) (hy : (y = 1 ∧ T = A b 3) ∨ (y = 2 ∧ T = A b 4)) : ∀ (n s : Nat), s + n = 16 → anyF (beyP (sr lc lt (A b 6) T 16) S x) s = false → ev 79 3 [some (.ref b), some (.int S), some (.int y), some (.int x), some (.int (nI s))] [] (G b u v A τ) = some (some (.int (bI (!anyF (beyP (sr lc lt (A b 6) T 16) S x) 16))), (G b u v A τ))
  | 0, s, hs, ha => by
    have : s = 16 := by omega
    subst this
    rw [ha, e79_3]
    simp (disch := first | omega | assumption | exact Nat.le_of_ble_eq_true rfl) only [m79, e79_0, e79_1i, e79_1n, e79_1r, e79_5, e79_7, e79_10, e79_11, e79_13, e79_16, e79_19, e79_20, e79_22, e79_23, e79_26, e79_27, e79_28, e79_31, e79_34, e79_35b0, e79_35b1, e79_36i, e79_36n, e79_36r, e79_39, e79_42, e79_43b0, e79_43b1, Bool.false_eq_true, Bool.true_eq_false, gfK, pfK, lnK, isC, alK_n, asK_n, List.getElem?_cons_zero, List.getElem?_cons_succ, List.set_cons_zero, List.set_cons_succ, List.length_cons, List.length_nil, ↓reduceIte, if_true, if_false, eq_self, and_true, true_and, and_self, Option.bind_some, Option.bind_none, Option.toList_some, Option.toList_none, List.cons_append, List.nil_append, mset_at, mset_ne, mset_2, mset_mset, Nat.reduceLT, Nat.reduceAdd, le_16, Nat.le_refl, Bool.not_false, bI_t]
  | n + 1, s, hs, ha => by
    have ih := within_loop hb hR hy n (s + 1) (by omega)
    have h16 : ¬ 16 ≤ s := by omega
    have hso := W_sureOf (b := b) (u := u) (v := v) (τ := τ) (s := s) hb hR hy (by omega)
    rw [e79_3]
    by_cases h1 : bi S s = true
    · by_cases h2 : 0 ≤ sr lc lt (A b 6) T 16 s ∧ sr lc lt (A b 6) T 16 s ≤ x
      · have ih := ih (by rw [anyF, ha, beyP, decide_eq_true h2, Bool.not_true, Bool.and_false]; rfl)
        simp (disch := first | omega | assumption | exact Nat.le_of_ble_eq_true rfl) only [m79, e79_0, e79_1i, e79_1n, e79_1r, e79_5, e79_7, e79_10, e79_11, e79_13, e79_16, e79_19, e79_20, e79_22, e79_23, e79_26, e79_27, e79_28, e79_31, e79_34, e79_35b0, e79_35b1, e79_36i, e79_36n, e79_36r, e79_39, e79_42, e79_43b0, e79_43b1, Bool.false_eq_true, Bool.true_eq_false, gfK, pfK, lnK, isC, alK_n, asK_n, List.getElem?_cons_zero, List.getElem?_cons_succ, List.set_cons_zero, List.set_cons_succ, List.length_cons, List.length_nil, ↓reduceIte, if_true, if_false, eq_self, and_true, true_and, and_self, Option.bind_some, Option.bind_none, Option.toList_some, Option.toList_none, List.cons_append, List.nil_append, mset_at, mset_ne, mset_2, mset_mset, Nat.reduceLT, Nat.reduceAdd, le_16, h16, R_bit, h1, nz1, G_W0 hb, hso, R_within, h2, nI_succ', ih]
      · have he : anyF (beyP (sr lc lt (A b 6) T 16) S x) 16 = true := anyF_t.2 ⟨s, by omega, by rw [beyP, h1, decide_eq_false h2]; rfl⟩
        rw [he]
        simp (disch := first | omega | assumption | exact Nat.le_of_ble_eq_true rfl) only [m79, e79_0, e79_1i, e79_1n, e79_1r, e79_5, e79_7, e79_10, e79_11, e79_13, e79_16, e79_19, e79_20, e79_22, e79_23, e79_26, e79_27, e79_28, e79_31, e79_34, e79_35b0, e79_35b1, e79_36i, e79_36n, e79_36r, e79_39, e79_42, e79_43b0, e79_43b1, Bool.false_eq_true, Bool.true_eq_false, gfK, pfK, lnK, isC, alK_n, asK_n, List.getElem?_cons_zero, List.getElem?_cons_succ, List.set_cons_zero, List.set_cons_succ, List.length_cons, List.length_nil, ↓reduceIte, if_true, if_false, eq_self, and_true, true_and, and_self, Option.bind_some, Option.bind_none, Option.toList_some, Option.toList_none, List.cons_append, List.nil_append, mset_at, mset_ne, mset_2, mset_mset, Nat.reduceLT, Nat.reduceAdd, le_16, h16, R_bit, h1, nz1, G_W0 hb, hso, R_within, h2, Bool.not_true, bI_f]
    · have ih := ih (by rw [anyF, ha, beyP, Bool.eq_false_iff.2 h1]; rfl)
      simp (disch := first | omega | assumption | exact Nat.le_of_ble_eq_true rfl) only [m79, e79_0, e79_1i, e79_1n, e79_1r, e79_5, e79_7, e79_10, e79_11, e79_13, e79_16, e79_19, e79_20, e79_22, e79_23, e79_26, e79_27, e79_28, e79_31, e79_34, e79_35b0, e79_35b1, e79_36i, e79_36n, e79_36r, e79_39, e79_42, e79_43b0, e79_43b1, Bool.false_eq_true, Bool.true_eq_false, gfK, pfK, lnK, isC, alK_n, asK_n, List.getElem?_cons_zero, List.getElem?_cons_succ, List.set_cons_zero, List.set_cons_succ, List.length_cons, List.length_nil, ↓reduceIte, if_true, if_false, eq_self, and_true, true_and, and_self, Option.bind_some, Option.bind_none, Option.toList_some, Option.toList_none, List.cons_append, List.nil_append, mset_at, mset_ne, mset_2, mset_mset, Nat.reduceLT, Nat.reduceAdd, le_16, h16, R_bit, h1, nI_succ', ih]
theorem W_sureIn (hb : b = 8 ∨ b = 19) (hR : WR b A lc lt) (hy : (y = 1 ∧ T = A b 3) ∨ (y = 2 ∧ T = A b 4)) : evM 79 [.ref b, .int S, .int y, .int x] (G b u v A τ) = some (some (.int (bI (!anyF (beyP (sr lc lt (A b 6) T 16) S x) 16))), (G b u v A τ)) := by
  have := within_loop (b := b) (u := u) (v := v) (τ := τ) (S := S) (x := x) hb hR hy 16 0 rfl rfl
  rw [← lit_0] at this
  simp (disch := first | omega | assumption | exact Nat.le_of_ble_eq_true rfl) only [m79, e79_0, e79_1i, e79_1n, e79_1r, e79_5, e79_7, e79_10, e79_11, e79_13, e79_16, e79_19, e79_20, e79_22, e79_23, e79_26, e79_27, e79_28, e79_31, e79_34, e79_35b0, e79_35b1, e79_36i, e79_36n, e79_36r, e79_39, e79_42, e79_43b0, e79_43b1, Bool.false_eq_true, Bool.true_eq_false, gfK, pfK, lnK, isC, alK_n, asK_n, List.getElem?_cons_zero, List.getElem?_cons_succ, List.set_cons_zero, List.set_cons_succ, List.length_cons, List.length_nil, ↓reduceIte, if_true, if_false, eq_self, and_true, true_and, and_self, Option.bind_some, Option.bind_none, Option.toList_some, Option.toList_none, List.cons_append, List.nil_append, mset_at, mset_ne, mset_2, mset_mset, Nat.reduceLT, Nat.reduceAdd, this]
theorem first_loop (hb : b = 8 ∨ b = 19) (hR : WR b A lc lt) (hy : (y = 1 ∧ T = A b 3) ∨ (y = 2 ∧ T = A b 4)) (hs : s < 16) {P : Nat → Bool} (hx : ¬ x ≤ 0) (hP : ∀ d, d < 8 → P d = (letP lc lt (A b 6) s d && !anyF (beyP (sr lc lt (A b 6) T 16) (setI (lt (s * 8 + d)) (lc (s * 8 + d))) (x - 1)) 16)) : ∀ (n d : Nat), d + n = 8 → ev 77 10 [some (.ref b), some (.int (nI s)), some (.int y), some (.int x), some (.int (nI d))] [] (G b u v A τ) = some (some (.int (firstF P d n)), (G b u v A τ))
  | 0, d, hd => by
    have : d = 8 := by omega
    subst this
    rw [e77_10]
    simp (disch := first | omega | assumption | exact Nat.le_of_ble_eq_true rfl) only [m77, e77_0, e77_1, e77_2, e77_3, e77_6i, e77_6n, e77_6r, e77_7, e77_8i, e77_8n, e77_8r, e77_12, e77_14, e77_17, e77_18, e77_21, e77_22, e77_23, e77_25, e77_28, e77_31, e77_32, e77_33, e77_34, e77_36, e77_39, e77_40, e77_41, e77_42, e77_43, e77_46, e77_49, e77_51, e77_52i, e77_52n, e77_52r, e77_55, e77_58, e77_60, Bool.false_eq_true, Bool.true_eq_false, gfK, pfK, lnK, isC, alK_n, asK_n, List.getElem?_cons_zero, List.getElem?_cons_succ, List.set_cons_zero, List.set_cons_succ, List.length_cons, List.length_nil, ↓reduceIte, if_true, if_false, eq_self, and_true, true_and, and_self, Option.bind_some, Option.bind_none, Option.toList_some, Option.toList_none, List.cons_append, List.nil_append, mset_at, mset_ne, mset_2, mset_mset, Nat.reduceLT, Nat.reduceAdd, le_8, Nat.le_refl, firstF]
  | n + 1, d, hd => by
    have ih := first_loop hb hR hy hs hx hP n (d + 1) (by omega)
    have h8 : ¬ 8 ≤ d := by omega
    have hd' : d < 8 := by omega
    have hPd := hP d hd'
    rw [e77_10]
    by_cases h1 : letP lc lt (A b 6) s d = true
    · by_cases h2 : anyF (beyP (sr lc lt (A b 6) T 16) (setI (lt (s * 8 + d)) (lc (s * 8 + d))) (x - 1)) 16 = true
      · rw [h2, Bool.not_true, Bool.and_false] at hPd
        rw [firstF, hPd, if_neg Bool.false_ne_true]
        simp (disch := first | omega | assumption | exact Nat.le_of_ble_eq_true rfl) only [m77, e77_0, e77_1, e77_2, e77_3, e77_6i, e77_6n, e77_6r, e77_7, e77_8i, e77_8n, e77_8r, e77_12, e77_14, e77_17, e77_18, e77_21, e77_22, e77_23, e77_25, e77_28, e77_31, e77_32, e77_33, e77_34, e77_36, e77_39, e77_40, e77_41, e77_42, e77_43, e77_46, e77_49, e77_51, e77_52i, e77_52n, e77_52r, e77_55, e77_58, e77_60, Bool.false_eq_true, Bool.true_eq_false, gfK, pfK, lnK, isC, alK_n, asK_n, List.getElem?_cons_zero, List.getElem?_cons_succ, List.set_cons_zero, List.set_cons_succ, List.length_cons, List.length_nil, ↓reduceIte, if_true, if_false, eq_self, and_true, true_and, and_self, Option.bind_some, Option.bind_none, Option.toList_some, Option.toList_none, List.cons_append, List.nil_append, mset_at, mset_ne, mset_2, mset_mset, Nat.reduceLT, Nat.reduceAdd, le_8, h8, hx, G_W0 hb, W_isLet hb hR hs hd', h1, bI_t, nz1, W_lotSet hb hR.2.1 hs hd', W_sureIn hb hR hy, h2, Bool.not_true, bI_f, nI_succ', ih]
      · rw [Bool.eq_false_iff.2 h2, h1] at hPd
        have hPd : P d = true := hPd
        rw [firstF, hPd, if_pos rfl]
        simp (disch := first | omega | assumption | exact Nat.le_of_ble_eq_true rfl) only [m77, e77_0, e77_1, e77_2, e77_3, e77_6i, e77_6n, e77_6r, e77_7, e77_8i, e77_8n, e77_8r, e77_12, e77_14, e77_17, e77_18, e77_21, e77_22, e77_23, e77_25, e77_28, e77_31, e77_32, e77_33, e77_34, e77_36, e77_39, e77_40, e77_41, e77_42, e77_43, e77_46, e77_49, e77_51, e77_52i, e77_52n, e77_52r, e77_55, e77_58, e77_60, Bool.false_eq_true, Bool.true_eq_false, gfK, pfK, lnK, isC, alK_n, asK_n, List.getElem?_cons_zero, List.getElem?_cons_succ, List.set_cons_zero, List.set_cons_succ, List.length_cons, List.length_nil, ↓reduceIte, if_true, if_false, eq_self, and_true, true_and, and_self, Option.bind_some, Option.bind_none, Option.toList_some, Option.toList_none, List.cons_append, List.nil_append, mset_at, mset_ne, mset_2, mset_mset, Nat.reduceLT, Nat.reduceAdd, le_8, h8, hx, G_W0 hb, W_isLet hb hR hs hd', h1, bI_t, nz1, W_lotSet hb hR.2.1 hs hd', W_sureIn hb hR hy, Bool.eq_false_iff.2 h2, Bool.not_false]
    · rw [Bool.eq_false_iff.2 h1, Bool.false_and] at hPd
      rw [firstF, hPd, if_neg Bool.false_ne_true]
      simp (disch := first | omega | assumption | exact Nat.le_of_ble_eq_true rfl) only [m77, e77_0, e77_1, e77_2, e77_3, e77_6i, e77_6n, e77_6r, e77_7, e77_8i, e77_8n, e77_8r, e77_12, e77_14, e77_17, e77_18, e77_21, e77_22, e77_23, e77_25, e77_28, e77_31, e77_32, e77_33, e77_34, e77_36, e77_39, e77_40, e77_41, e77_42, e77_43, e77_46, e77_49, e77_51, e77_52i, e77_52n, e77_52r, e77_55, e77_58, e77_60, Bool.false_eq_true, Bool.true_eq_false, gfK, pfK, lnK, isC, alK_n, asK_n, List.getElem?_cons_zero, List.getElem?_cons_succ, List.set_cons_zero, List.set_cons_succ, List.length_cons, List.length_nil, ↓reduceIte, if_true, if_false, eq_self, and_true, true_and, and_self, Option.bind_some, Option.bind_none, Option.toList_some, Option.toList_none, List.cons_append, List.nil_append, mset_at, mset_ne, mset_2, mset_mset, Nat.reduceLT, Nat.reduceAdd, le_8, h8, hx, G_W0 hb, W_isLet hb hR hs hd', Bool.eq_false_iff.2 h1, bI_f, nI_succ', ih]
theorem sureOf_loop (hC : MW A lc lt) (hW : WF lc lt) (hs : s < 16) (hd : d < 8) (hX : A 66 = X) (hXv : ∀ t, t < 16 → X t = -9 ∨ ∃ k, k ≤ 16 ∧ X t = nI k) : ∀ (n i : Nat) (l5 : Option Value), i + n = lc (s * 8 + d) → anyF (fun i => decide (X (lt (s * 8 + d) i) = -9)) i = false → ev 169 5 [some (.ref 60), some (.int (nI s)), some (.int (nI d)), some (.int (nI (mxF (fun i => dv X (lt (s * 8 + d) i)) i))), some (.int (nI i)), l5] [] (G b u v A τ) = some (some (.int (sof lc lt X (s * 8 + d))), (G b u v A τ))
  | 0, i, l5, hi, ha => by
    have h4 := (hW (s * 8 + d) (by omega)).1
    have hi : i = lc (s * 8 + d) := by omega
    unfold sof
    rw [← hi, if_neg (by rw [ha]; exact Bool.false_ne_true), e169_5]
    simp (disch := first | omega | assumption | exact Nat.le_of_ble_eq_true rfl) only [m169, e169_0, e169_1i, e169_1n, e169_1r, e169_2, e169_3i, e169_3n, e169_3r, e169_7, e169_8, e169_9, e169_10, e169_13, e169_16, e169_17, e169_20, e169_21, e169_22, e169_23, e169_25, e169_28, e169_29i, e169_29n, e169_29r, e169_31, e169_33, e169_35, e169_38, e169_40, e169_41, e169_43, e169_44, e169_47, e169_49, e169_52, e169_53i, e169_53n, e169_53r, e169_54i, e169_54n, e169_54r, e169_57, e169_60, e169_61, Bool.false_eq_true, Bool.true_eq_false, gfK, pfK, lnK, isC, alK_n, asK_n, List.getElem?_cons_zero, List.getElem?_cons_succ, List.set_cons_zero, List.set_cons_succ, List.length_cons, List.length_nil, ↓reduceIte, if_true, if_false, eq_self, and_true, true_and, and_self, Option.bind_some, Option.bind_none, Option.toList_some, Option.toList_none, List.cons_append, List.nil_append, mset_at, mset_ne, mset_2, mset_mset, Nat.reduceLT, Nat.reduceAdd, G_60, V_lots hC hs hd, nI_leI, Nat.le_refl, ← hi]
  | n + 1, i, l5, hi, ha => by
    have h4 := hW (s * 8 + d) (by omega)
    have h4' := h4.1
    have h5 : ¬ lc (s * 8 + d) ≤ i := by omega
    have hi' : i < lc (s * 8 + d) := by omega
    have h6 := h4.2 i hi'
    have ih := sureOf_loop hC hW hs hd hX hXv n (i + 1) (some (.int (X (lt (s * 8 + d) i)))) (by omega)
    have hgo := V_lotOf (b := b) (u := u) (v := v) (τ := τ) hC hW hs hd hi'
    rw [e169_5]
    rcases hXv (lt (s * 8 + d) i) h6 with h | ⟨k, hk, h⟩
    · have he : anyF (fun i => decide (X (lt (s * 8 + d) i) = -9)) (lc (s * 8 + d)) = true := anyF_t.2 ⟨i, hi', decide_eq_true h⟩
      unfold sof
      rw [he, if_pos rfl]
      simp (disch := first | omega | assumption | exact Nat.le_of_ble_eq_true rfl) only [m169, e169_0, e169_1i, e169_1n, e169_1r, e169_2, e169_3i, e169_3n, e169_3r, e169_7, e169_8, e169_9, e169_10, e169_13, e169_16, e169_17, e169_20, e169_21, e169_22, e169_23, e169_25, e169_28, e169_29i, e169_29n, e169_29r, e169_31, e169_33, e169_35, e169_38, e169_40, e169_41, e169_43, e169_44, e169_47, e169_49, e169_52, e169_53i, e169_53n, e169_53r, e169_54i, e169_54n, e169_54r, e169_57, e169_60, e169_61, Bool.false_eq_true, Bool.true_eq_false, gfK, pfK, lnK, isC, alK_n, asK_n, List.getElem?_cons_zero, List.getElem?_cons_succ, List.set_cons_zero, List.set_cons_succ, List.length_cons, List.length_nil, ↓reduceIte, if_true, if_false, eq_self, and_true, true_and, and_self, Option.bind_some, Option.bind_none, Option.toList_some, Option.toList_none, List.cons_append, List.nil_append, mset_at, mset_ne, mset_2, mset_mset, Nat.reduceLT, Nat.reduceAdd, G_60, G_66, hX, V_lots hC hs hd, hgo, nI_leI, h5, h]
    · have h9 : ¬ nI k = -9 := nI_m9 (by omega)
      have ih := ih (by rw [anyF, ha, h, decide_eq_false h9]; rfl)
      have hdv := dv_of (X := X) (t := lt (s * 8 + d) i) (by omega) h
      have hub : mxF (fun i => dv X (lt (s * 8 + d) i)) i ≤ 16 := mxF_ub fun j hj => by
        rcases hXv (lt (s * 8 + d) j) (h4.2 j (by omega)) with g | ⟨k', hk', g⟩
        · exact absurd (anyF_f.1 ha j hj) (by rw [g]; decide)
        · show dv X _ ≤ 16
          rw [dv_of (by omega) g]
          exact hk'
      by_cases hm : mxF (fun i => dv X (lt (s * 8 + d) i)) i < k
      · rw [show mxF (fun i => dv X (lt (s * 8 + d) i)) (i + 1) = k from by rw [mxF, hdv]; exact if_pos hm, h] at ih
        simp (disch := first | omega | assumption | exact Nat.le_of_ble_eq_true rfl) only [m169, e169_0, e169_1i, e169_1n, e169_1r, e169_2, e169_3i, e169_3n, e169_3r, e169_7, e169_8, e169_9, e169_10, e169_13, e169_16, e169_17, e169_20, e169_21, e169_22, e169_23, e169_25, e169_28, e169_29i, e169_29n, e169_29r, e169_31, e169_33, e169_35, e169_38, e169_40, e169_41, e169_43, e169_44, e169_47, e169_49, e169_52, e169_53i, e169_53n, e169_53r, e169_54i, e169_54n, e169_54r, e169_57, e169_60, e169_61, Bool.false_eq_true, Bool.true_eq_false, gfK, pfK, lnK, isC, alK_n, asK_n, List.getElem?_cons_zero, List.getElem?_cons_succ, List.set_cons_zero, List.set_cons_succ, List.length_cons, List.length_nil, ↓reduceIte, if_true, if_false, eq_self, and_true, true_and, and_self, Option.bind_some, Option.bind_none, Option.toList_some, Option.toList_none, List.cons_append, List.nil_append, mset_at, mset_ne, mset_2, mset_mset, Nat.reduceLT, Nat.reduceAdd, G_60, G_66, hX, V_lots hC hs hd, hgo, nI_leI, h5, h, h9, show ¬ k ≤ mxF (fun i => dv X (lt (s * 8 + d) i)) i from by omega, nI_succ', ih]
      · rw [show mxF (fun i => dv X (lt (s * 8 + d) i)) (i + 1) = mxF (fun i => dv X (lt (s * 8 + d) i)) i from by rw [mxF, hdv]; exact if_neg hm, h] at ih
        simp (disch := first | omega | assumption | exact Nat.le_of_ble_eq_true rfl) only [m169, e169_0, e169_1i, e169_1n, e169_1r, e169_2, e169_3i, e169_3n, e169_3r, e169_7, e169_8, e169_9, e169_10, e169_13, e169_16, e169_17, e169_20, e169_21, e169_22, e169_23, e169_25, e169_28, e169_29i, e169_29n, e169_29r, e169_31, e169_33, e169_35, e169_38, e169_40, e169_41, e169_43, e169_44, e169_47, e169_49, e169_52, e169_53i, e169_53n, e169_53r, e169_54i, e169_54n, e169_54r, e169_57, e169_60, e169_61, Bool.false_eq_true, Bool.true_eq_false, gfK, pfK, lnK, isC, alK_n, asK_n, List.getElem?_cons_zero, List.getElem?_cons_succ, List.set_cons_zero, List.set_cons_succ, List.length_cons, List.length_nil, ↓reduceIte, if_true, if_false, eq_self, and_true, true_and, and_self, Option.bind_some, Option.bind_none, Option.toList_some, Option.toList_none, List.cons_append, List.nil_append, mset_at, mset_ne, mset_2, mset_mset, Nat.reduceLT, Nat.reduceAdd, G_60, G_66, hX, V_lots hC hs hd, hgo, nI_leI, h5, h, h9, show k ≤ mxF (fun i => dv X (lt (s * 8 + d) i)) i from by omega, nI_succ', ih]
theorem V_sureOf (hC : MW A lc lt) (hW : WF lc lt) (hs : s < 16) (hd : d < 8) (hX : A 66 = X) (hXv : ∀ t, t < 16 → X t = -9 ∨ ∃ k, k ≤ 16 ∧ X t = nI k) : evM 169 [.ref 60, .int (nI s), .int (nI d)] (G b u v A τ) = some (some (.int (sof lc lt X (s * 8 + d))), (G b u v A τ)) := by
  have := sureOf_loop (b := b) (u := u) (v := v) (τ := τ) hC hW hs hd hX hXv (lc (s * 8 + d)) 0 none (by omega) rfl
  rw [show mxF (fun i => dv X (lt (s * 8 + d) i)) 0 = 0 from rfl, ← lit_0] at this
  simp (disch := first | omega | assumption | exact Nat.le_of_ble_eq_true rfl) only [m169, e169_0, e169_1i, e169_1n, e169_1r, e169_2, e169_3i, e169_3n, e169_3r, e169_7, e169_8, e169_9, e169_10, e169_13, e169_16, e169_17, e169_20, e169_21, e169_22, e169_23, e169_25, e169_28, e169_29i, e169_29n, e169_29r, e169_31, e169_33, e169_35, e169_38, e169_40, e169_41, e169_43, e169_44, e169_47, e169_49, e169_52, e169_53i, e169_53n, e169_53r, e169_54i, e169_54n, e169_54r, e169_57, e169_60, e169_61, Bool.false_eq_true, Bool.true_eq_false, gfK, pfK, lnK, isC, alK_n, asK_n, List.getElem?_cons_zero, List.getElem?_cons_succ, List.set_cons_zero, List.set_cons_succ, List.length_cons, List.length_nil, ↓reduceIte, if_true, if_false, eq_self, and_true, true_and, and_self, Option.bind_some, Option.bind_none, Option.toList_some, Option.toList_none, List.cons_append, List.nil_append, mset_at, mset_ne, mset_2, mset_mset, Nat.reduceLT, Nat.reduceAdd, this]
theorem V_sr0 (f0 : Nat → Int32) : ∀ (n s : Nat), s + n = 16 → ev 168 53 [some (.ref 60), some (.int x), some (.int y), some (.int z), some (.int T), some (.int (nI s)), l6, l7, l8, l9] [] (G b u v (up A 66 (mix s (sr lc lt (A 60 15) T 0) f0)) τ) = ev 168 99 [some (.ref 60), some (.int x), some (.int y), some (.int z), some (.int T), some (.int (nI 16)), l6, l7, l8, l9] [] (G b u v (up A 66 (mix 16 (sr lc lt (A 60 15) T 0) f0)) τ)
  | 0, s, hs => by
    have : s = 16 := by omega
    subst this
    rw [e168_53]
    simp (disch := first | omega | assumption | exact Nat.le_of_ble_eq_true rfl) only [m168, e168_55, e168_57, Bool.false_eq_true, Bool.true_eq_false, gfK, pfK, lnK, isC, alK_n, asK_n, List.getElem?_cons_zero, List.getElem?_cons_succ, List.set_cons_zero, List.set_cons_succ, List.length_cons, List.length_nil, ↓reduceIte, if_true, if_false, eq_self, and_true, true_and, and_self, Option.bind_some, Option.bind_none, Option.toList_some, Option.toList_none, List.cons_append, List.nil_append, mset_at, mset_ne, mset_2, mset_mset, Nat.reduceLT, Nat.reduceAdd, le_16, Nat.le_refl]
  | n + 1, s, hs => by
    have ih := V_sr0 f0 n (s + 1) (by omega)
    have h16 : ¬ 16 ≤ s := by omega
    have hsf := V_isSafe (b := b) (u := u) (v := v) (τ := τ) (A := up A 66 (mix s (sr lc lt (A 60 15) T 0) f0)) (s := s) (by omega)
    rw [show up A 66 (mix s (sr lc lt (A 60 15) T 0) f0) 60 15 = A 60 15 from by rw [up_ne (by omega)]] at hsf
    rw [← mix_succ] at ih
    rw [e168_53]
    by_cases h1 : bi (A 60 15) s = true
    · rw [h1, bI_t] at hsf
      by_cases h2 : bi T s = true
      · rw [show sr lc lt (A 60 15) T 0 s = 0 from by rw [sr, if_pos ⟨h1, h2⟩]] at ih
        simp (disch := first | omega | assumption | exact Nat.le_of_ble_eq_true rfl) only [m168, e168_55, e168_57, e168_60, e168_61, e168_64, e168_66, e168_67, e168_69, e168_72, e168_75, e168_77, e168_79, e168_80, e168_81, e168_82, e168_83, e168_86, e168_87, e168_90, e168_92, e168_93i, e168_93n, e168_93r, e168_96, Bool.false_eq_true, Bool.true_eq_false, gfK, pfK, lnK, isC, alK_n, asK_n, List.getElem?_cons_zero, List.getElem?_cons_succ, List.set_cons_zero, List.set_cons_succ, List.length_cons, List.length_nil, ↓reduceIte, if_true, if_false, eq_self, and_true, true_and, and_self, Option.bind_some, Option.bind_none, Option.toList_some, Option.toList_none, List.cons_append, List.nil_append, mset_at, mset_ne, mset_2, mset_mset, Nat.reduceLT, Nat.reduceAdd, le_16, h16, G_60, G_66, S_66, hsf, nz1, shr_1, h2, up_at, up_up, nI_succ', ih]
      · rw [show sr lc lt (A 60 15) T 0 s = -9 from by rw [sr, if_neg (fun g => h2 g.2)]] at ih
        simp (disch := first | omega | assumption | exact Nat.le_of_ble_eq_true rfl) only [m168, e168_55, e168_57, e168_60, e168_61, e168_64, e168_66, e168_67, e168_69, e168_72, e168_75, e168_77, e168_79, e168_80, e168_81, e168_82, e168_83, e168_86, e168_87, e168_90, e168_92, e168_93i, e168_93n, e168_93r, e168_96, Bool.false_eq_true, Bool.true_eq_false, gfK, pfK, lnK, isC, alK_n, asK_n, List.getElem?_cons_zero, List.getElem?_cons_succ, List.set_cons_zero, List.set_cons_succ, List.length_cons, List.length_nil, ↓reduceIte, if_true, if_false, eq_self, and_true, true_and, and_self, Option.bind_some, Option.bind_none, Option.toList_some, Option.toList_none, List.cons_append, List.nil_append, mset_at, mset_ne, mset_2, mset_mset, Nat.reduceLT, Nat.reduceAdd, le_16, h16, G_60, G_66, S_66, hsf, nz1, shr_1, h2, up_at, up_up, nI_succ', ih]
    · rw [Bool.eq_false_iff.2 h1, bI_f] at hsf
      rw [show sr lc lt (A 60 15) T 0 s = -9 from by rw [sr, if_neg (fun g => h1 g.1)]] at ih
      simp (disch := first | omega | assumption | exact Nat.le_of_ble_eq_true rfl) only [m168, e168_55, e168_57, e168_60, e168_61, e168_64, e168_66, e168_67, e168_69, e168_72, e168_75, e168_77, e168_79, e168_80, e168_81, e168_82, e168_83, e168_86, e168_87, e168_90, e168_92, e168_93i, e168_93n, e168_93r, e168_96, Bool.false_eq_true, Bool.true_eq_false, gfK, pfK, lnK, isC, alK_n, asK_n, List.getElem?_cons_zero, List.getElem?_cons_succ, List.set_cons_zero, List.set_cons_succ, List.length_cons, List.length_nil, ↓reduceIte, if_true, if_false, eq_self, and_true, true_and, and_self, Option.bind_some, Option.bind_none, Option.toList_some, Option.toList_none, List.cons_append, List.nil_append, mset_at, mset_ne, mset_2, mset_mset, Nat.reduceLT, Nat.reduceAdd, le_16, h16, G_60, G_66, S_66, hsf, up_at, up_up, nI_succ', ih]
theorem V_sure_d (hC : MW A lc lt) (hW : WF lc lt) (hs : s < 16) (hX : A 66 = X) (hXv : ∀ t, t < 16 → X t = -9 ∨ ∃ k, k ≤ 16 ∧ X t = nI k) (hXs : X s = -9) {Q : Nat → Bool} (hQ : ∀ d, d < 8 → Q d = (letP lc lt (A 60 15) s d && decide (¬ sof lc lt X (s * 8 + d) = -9 ∧ ¬ w0 ≤ sof lc lt X (s * 8 + d)))) : ∀ (n d : Nat) (l9 : Option Value), d + n = 8 → ∃ l9', ev 168 125 [some (.ref 60), some (.int x), some (.int y), some (.int z), some (.int T), some (.int w0), some (.int (nI s)), some (.int (bI (anyF Q d))), some (.int (nI d)), l9] [] (G b u v A τ) = ev 168 200 [some (.ref 60), some (.int x), some (.int y), some (.int z), some (.int T), some (.int w0), some (.int (nI s)), some (.int (bI (anyF Q 8))), some (.int (nI 8)), l9'] [] (G b u v A τ)
  | 0, d, l9, hd => by
    have : d = 8 := by omega
    subst this
    refine ⟨l9, ?_⟩
    rw [e168_125]
    simp (disch := first | omega | assumption | exact Nat.le_of_ble_eq_true rfl) only [m168, e168_127, e168_129, Bool.false_eq_true, Bool.true_eq_false, gfK, pfK, lnK, isC, alK_n, asK_n, List.getElem?_cons_zero, List.getElem?_cons_succ, List.set_cons_zero, List.set_cons_succ, List.length_cons, List.length_nil, ↓reduceIte, if_true, if_false, eq_self, and_true, true_and, and_self, Option.bind_some, Option.bind_none, Option.toList_some, Option.toList_none, List.cons_append, List.nil_append, mset_at, mset_ne, mset_2, mset_mset, Nat.reduceLT, Nat.reduceAdd, le_8, Nat.le_refl]
  | n + 1, d, l9, hd => by
    have h8 : ¬ 8 ≤ d := by omega
    have hd' : d < 8 := by omega
    have hQd := hQ d hd'
    have hlet := V_isLet (b := b) (u := u) (v := v) (τ := τ) hC hW hs hd'
    have hso := V_sureOf (b := b) (u := u) (v := v) (τ := τ) hC hW hs hd' hX hXv
    by_cases h1 : letP lc lt (A 60 15) s d = true
    · obtain ⟨l9', ih⟩ := V_sure_d hC hW hs hX hXv hXs hQ n (d + 1) (some (.int (sof lc lt X (s * 8 + d)))) (by omega)
      refine ⟨l9', ?_⟩
      rw [show anyF Q (d + 1) = (anyF Q d || Q d) from rfl] at ih
      rw [h1, bI_t] at hlet
      rw [h1, Bool.true_and] at hQd
      rw [e168_125]
      by_cases h2 : sof lc lt X (s * 8 + d) = -9
      · rw [decide_eq_false (fun g => g.1 h2)] at hQd
        rw [hQd, Bool.or_false, h2] at ih
        simp (disch := first | omega | assumption | exact Nat.le_of_ble_eq_true rfl) only [m168, e168_127, e168_129, e168_132, e168_133, e168_136, e168_138, e168_139, e168_141, e168_144, e168_145, e168_147, e168_149, e168_152, e168_155, e168_156, e168_158, e168_160, e168_163, e168_166, e168_168i, e168_168n, e168_168r, e168_170, e168_172, e168_174, e168_176, e168_179, e168_181, e168_183, e168_186, e168_187, e168_190, e168_191, e168_192i, e168_192n, e168_192r, e168_194i, e168_194n, e168_194r, e168_197, Bool.false_eq_true, Bool.true_eq_false, gfK, pfK, lnK, isC, alK_n, asK_n, List.getElem?_cons_zero, List.getElem?_cons_succ, List.set_cons_zero, List.set_cons_succ, List.length_cons, List.length_nil, ↓reduceIte, if_true, if_false, eq_self, and_true, true_and, and_self, Option.bind_some, Option.bind_none, Option.toList_some, Option.toList_none, List.cons_append, List.nil_append, mset_at, mset_ne, mset_2, mset_mset, Nat.reduceLT, Nat.reduceAdd, le_8, h8, G_60, G_66, hX, hXs, hlet, nz1, hso, h2, bI_or0, nI_succ', ih]
      · by_cases h3 : w0 ≤ sof lc lt X (s * 8 + d)
        · rw [decide_eq_false (fun g => g.2 h3)] at hQd
          rw [hQd, Bool.or_false] at ih
          simp (disch := first | omega | assumption | exact Nat.le_of_ble_eq_true rfl) only [m168, e168_127, e168_129, e168_132, e168_133, e168_136, e168_138, e168_139, e168_141, e168_144, e168_145, e168_147, e168_149, e168_152, e168_155, e168_156, e168_158, e168_160, e168_163, e168_166, e168_168i, e168_168n, e168_168r, e168_170, e168_172, e168_174, e168_176, e168_179, e168_181, e168_183, e168_186, e168_187, e168_190, e168_191, e168_192i, e168_192n, e168_192r, e168_194i, e168_194n, e168_194r, e168_197, Bool.false_eq_true, Bool.true_eq_false, gfK, pfK, lnK, isC, alK_n, asK_n, List.getElem?_cons_zero, List.getElem?_cons_succ, List.set_cons_zero, List.set_cons_succ, List.length_cons, List.length_nil, ↓reduceIte, if_true, if_false, eq_self, and_true, true_and, and_self, Option.bind_some, Option.bind_none, Option.toList_some, Option.toList_none, List.cons_append, List.nil_append, mset_at, mset_ne, mset_2, mset_mset, Nat.reduceLT, Nat.reduceAdd, le_8, h8, G_60, G_66, hX, hXs, hlet, nz1, hso, h2, h3, bI_or0, nI_succ', ih]
        · rw [decide_eq_true ⟨h2, h3⟩] at hQd
          rw [hQd, Bool.or_true] at ih
          simp (disch := first | omega | assumption | exact Nat.le_of_ble_eq_true rfl) only [m168, e168_127, e168_129, e168_132, e168_133, e168_136, e168_138, e168_139, e168_141, e168_144, e168_145, e168_147, e168_149, e168_152, e168_155, e168_156, e168_158, e168_160, e168_163, e168_166, e168_168i, e168_168n, e168_168r, e168_170, e168_172, e168_174, e168_176, e168_179, e168_181, e168_183, e168_186, e168_187, e168_190, e168_191, e168_192i, e168_192n, e168_192r, e168_194i, e168_194n, e168_194r, e168_197, Bool.false_eq_true, Bool.true_eq_false, gfK, pfK, lnK, isC, alK_n, asK_n, List.getElem?_cons_zero, List.getElem?_cons_succ, List.set_cons_zero, List.set_cons_succ, List.length_cons, List.length_nil, ↓reduceIte, if_true, if_false, eq_self, and_true, true_and, and_self, Option.bind_some, Option.bind_none, Option.toList_some, Option.toList_none, List.cons_append, List.nil_append, mset_at, mset_ne, mset_2, mset_mset, Nat.reduceLT, Nat.reduceAdd, le_8, h8, G_60, G_66, hX, hXs, hlet, nz1, hso, h2, h3, bI_or1, nI_succ', ih]
    · obtain ⟨l9', ih⟩ := V_sure_d hC hW hs hX hXv hXs hQ n (d + 1) (some (.int (-9))) (by omega)
      refine ⟨l9', ?_⟩
      rw [show anyF Q (d + 1) = (anyF Q d || Q d) from rfl] at ih
      rw [Bool.eq_false_iff.2 h1, bI_f] at hlet
      rw [Bool.eq_false_iff.2 h1, Bool.false_and] at hQd
      rw [hQd, Bool.or_false] at ih
      rw [e168_125]
      simp (disch := first | omega | assumption | exact Nat.le_of_ble_eq_true rfl) only [m168, e168_127, e168_129, e168_132, e168_133, e168_136, e168_138, e168_139, e168_141, e168_144, e168_145, e168_147, e168_149, e168_152, e168_155, e168_156, e168_158, e168_160, e168_163, e168_166, e168_168i, e168_168n, e168_168r, e168_170, e168_172, e168_174, e168_176, e168_179, e168_181, e168_183, e168_186, e168_187, e168_190, e168_191, e168_192i, e168_192n, e168_192r, e168_194i, e168_194n, e168_194r, e168_197, Bool.false_eq_true, Bool.true_eq_false, gfK, pfK, lnK, isC, alK_n, asK_n, List.getElem?_cons_zero, List.getElem?_cons_succ, List.set_cons_zero, List.set_cons_succ, List.length_cons, List.length_nil, ↓reduceIte, if_true, if_false, eq_self, and_true, true_and, and_self, Option.bind_some, Option.bind_none, Option.toList_some, Option.toList_none, List.cons_append, List.nil_append, mset_at, mset_ne, mset_2, mset_mset, Nat.reduceLT, Nat.reduceAdd, le_8, h8, G_60, G_66, hX, hXs, hlet, bI_or0, nI_succ', ih]
/-- the row of sure within a round: what a lot must have -/
theorem scur (hr : r < 16) {t : Nat} (ht : t < 16) : (¬ sr lc lt sf T r t = -9 → ∃ k, k ≤ r ∧ mix s (sr lc lt sf T (r + 1)) (mix 16 (sr lc lt sf T r) f0) t = nI k) ∧ (sr lc lt sf T r t = -9 → mix s (sr lc lt sf T (r + 1)) (mix 16 (sr lc lt sf T r) f0) t = -9 ∨ mix s (sr lc lt sf T (r + 1)) (mix 16 (sr lc lt sf T r) f0) t = nI (r + 1)) := by
  constructor
  · intro h
    have e : mix s (sr lc lt sf T (r + 1)) (mix 16 (sr lc lt sf T r) f0) t = sr lc lt sf T r t := by
      by_cases h1 : t < s
      · rw [mix_lt h1, sr_keep h]
      · rw [mix_ge h1, mix_lt ht]
    rw [e]
    exact (sr_val r t).resolve_left h
  · intro h
    by_cases h1 : t < s
    · rw [mix_lt h1]
      exact sr_new h
    · rw [mix_ge h1, mix_lt ht]
      exact Or.inl h
/-- what a way must have within a round -/
theorem sof_round (hW : WF lc lt) (hk : k < 128) (hr : r < 16) (hX : X = mix s (sr lc lt sf T (r + 1)) (mix 16 (sr lc lt sf T r) f0)) : (¬ sof lc lt X k = -9 ∧ ¬ nI (r + 1) ≤ sof lc lt X k) ↔ ∀ i, i < lc k → ¬ sr lc lt sf T r (lt k i) = -9 := by
  have hf := (hW k hk).2
  constructor
  · rintro ⟨h1, h2⟩ i hi g
    unfold sof at h1 h2
    by_cases ha : anyF (fun i => decide (X (lt k i) = -9)) (lc k) = true
    · rw [if_pos ha] at h1
      exact h1 rfl
    · rw [if_neg ha] at h2
      rcases (scur (s := s) (f0 := f0) (lc := lc) (lt := lt) (sf := sf) (T := T) hr (hf i hi)).2 g with g1 | g1
      · rw [← hX] at g1
        exact ha (anyF_t.2 ⟨i, hi, decide_eq_true g1⟩)
      · rw [← hX] at g1
        have h3 := mxF_le (val := fun i => dv X (lt k i)) hi
        have h4 := dv_of (X := X) (t := lt k i) (by omega) g1
        have h3 : dv X (lt k i) ≤ mxF (fun i => dv X (lt k i)) (lc k) := h3
        rw [h4] at h3
        have hub : mxF (fun i => dv X (lt k i)) (lc k) ≤ 16 := mxF_ub fun j hj => by
          show dv X (lt k j) ≤ 16
          by_cases gj : sr lc lt sf T r (lt k j) = -9
          · rcases (scur (s := s) (f0 := f0) (lc := lc) (lt := lt) (sf := sf) (T := T) hr (hf j hj)).2 gj with g2 | g2
            · rw [← hX] at g2
              exact absurd (anyF_t.2 ⟨j, hj, decide_eq_true g2⟩) ha
            · rw [← hX] at g2
              rw [dv_of (by omega) g2]
              omega
          · obtain ⟨k', hk', g2⟩ := (scur (s := s) (f0 := f0) (lc := lc) (lt := lt) (sf := sf) (T := T) hr (hf j hj)).1 gj
            rw [← hX] at g2
            rw [dv_of (by omega) g2]
            omega
        exact h2 ((nI_leI (by omega) (by omega)).2 h3)
  · intro h
    have hv : ∀ j, j < lc k → ∃ k', k' ≤ r ∧ X (lt k j) = nI k' := fun j hj => by
      rw [hX]
      exact (scur (s := s) (f0 := f0) (lc := lc) (lt := lt) (sf := sf) (T := T) hr (hf j hj)).1 (h j hj)
    have ha : anyF (fun i => decide (X (lt k i) = -9)) (lc k) = false := anyF_f.2 fun j hj => by
      obtain ⟨k', hk', g⟩ := hv j hj
      rw [g]
      exact decide_eq_false (nI_m9 (by omega))
    have hub : mxF (fun i => dv X (lt k i)) (lc k) ≤ r := mxF_ub fun j hj => by
      obtain ⟨k', hk', g⟩ := hv j hj
      show dv X (lt k j) ≤ r
      rw [dv_of (by omega) g]
      exact hk'
    unfold sof
    rw [if_neg (by rw [ha]; exact Bool.false_ne_true), nI_leI (by omega) (by omega)]
    exact ⟨nI_m9 (by omega), by omega⟩
theorem scur_v (hr : r < 16) (t : Nat) (ht : t < 16) : mix s (sr lc lt sf T (r + 1)) (mix 16 (sr lc lt sf T r) f0) t = -9 ∨ ∃ k, k ≤ 16 ∧ mix s (sr lc lt sf T (r + 1)) (mix 16 (sr lc lt sf T r) f0) t = nI k := by
  by_cases h1 : t < s
  · rw [mix_lt h1]
    rcases sr_val (lc := lc) (lt := lt) (sf := sf) (set := T) (r + 1) t with h | ⟨k, hk, h⟩
    · exact Or.inl h
    · exact Or.inr ⟨k, by omega, h⟩
  · rw [mix_ge h1, mix_lt ht]
    rcases sr_val (lc := lc) (lt := lt) (sf := sf) (set := T) r t with h | ⟨k, hk, h⟩
    · exact Or.inl h
    · exact Or.inr ⟨k, by omega, h⟩
end SURE
