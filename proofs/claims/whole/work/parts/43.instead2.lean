/-! INSTEAD on both sides: the latest doom; the whole. -/
/-- of the ways that are there the one of the greatest value, the first of several -/
def lateO (H : Nat → Bool) (val : Nat → Nat) : Nat → Option Nat
  | 0 => none
  | n + 1 => match lateO H val n with
    | none => if H n = true then some n else none
    | some m => if H n = true ∧ val m < val n then some n else some m
theorem lateO_lt {H : Nat → Bool} {val : Nat → Nat} : ∀ {n m : Nat}, lateO H val n = some m → m < n
  | 0, m, h => by cases h
  | n + 1, m, h => by
    rw [lateO] at h
    split at h
    · split at h
      · cases h; omega
      · cases h
    · rename_i k hk
      split at h
      · cases h; omega
      · cases h
        have := lateO_lt hk
        omega
theorem lateO_congr {H : Nat → Bool} {v1 v2 : Nat → Nat} : ∀ {n : Nat}, (∀ i j, i < n → j < n → (v1 i < v1 j ↔ v2 i < v2 j)) → lateO H v1 n = lateO H v2 n
  | 0, _ => rfl
  | n + 1, h => by
    have ih := lateO_congr (H := H) (v1 := v1) (v2 := v2) (n := n) (fun i j hi hj => h i j (by omega) (by omega))
    rw [lateO, lateO, ih]
    cases hn : lateO H v2 n with
    | none => rfl
    | some m =>
      have hm := lateO_lt hn
      have := h m n (by omega) (by omega)
      simp only [this]
/-- doom's number and whether there is one -/
def dv (D : Nat → Int32) (s : Nat) : Nat := (D s).toNatClampNeg
def dh (D : Nat → Int32) (s : Nat) : Bool := decide (¬ D s = -9)
/-- the least doom among a set, the class's way and the model's -/
def ldC (lc : Nat → Nat) (lt : Nat → Nat → Nat) (D : Nat → Int32) (k : Nat) : Nat := lmin (fun s => bi (setI (lt k) (lc k)) s && dh D s) (dv D) 17 16
def ldM (lc : Nat → Nat) (lt : Nat → Nat → Nat) (D : Nat → Int32) (k : Nat) : Nat := lmin (fun i => dh D (lt k i)) (fun i => dv D (lt k i)) 99 (lc k)
section LATE
variable {b : Nat} {u v : Int64} {A : Nat → Nat → Int32} {τ : Nat × Nat × Nat × (Nat → Int32)} {lc : Nat → Nat} {lt : Nat → Nat → Nat} {s d i q : Nat} {S sf x y z : Int32} {σ : mS} {pr : Nat → Nat} {D : Nat → Int32} {l2 l4 l5 l6 l7 l8 : Option Value}
theorem dv_nI (hD : ∀ s, D s = -9 ∨ ∃ k, k ≤ 16 ∧ D s = nI k) (h : dh D s = true) : D s = nI (dv D s) ∧ dv D s ≤ 16 := by
  obtain ⟨k, hk, e⟩ := (hD s).resolve_left (of_decide_eq_true h)
  have : dv D s = k := by
    unfold dv
    rw [e, nI_clamp (by omega)]
  rw [this]
  exact ⟨e, hk⟩
theorem ld_rel (hW : WF lc lt) {k : Nat} (hk : k < 128) (hD : ∀ s, D s = -9 ∨ ∃ k, k ≤ 16 ∧ D s = nI k) : (ldC lc lt D k = 17 ∧ ldM lc lt D k = 99) ∨ (ldC lc lt D k = ldM lc lt D k ∧ ldC lc lt D k ≤ 16) := by
  have hf := (hW k hk).2
  have hmem : ∀ i, i < lc k → bi (setI (lt k) (lc k)) (lt k i) = true := fun i hi => by
    rw [bi_setI (by have := hf i hi; omega) hf]
    exact anyF_t.2 ⟨i, hi, decide_eq_true rfl⟩
  rcases lmin_at (P := fun s => bi (setI (lt k) (lc k)) s && dh D s) (val := dv D) (D := 17) (n := 16) with h1 | ⟨s, hs, hP, h1⟩
  · left
    refine ⟨h1, ?_⟩
    rcases lmin_at (P := fun i => dh D (lt k i)) (val := fun i => dv D (lt k i)) (D := 99) (n := lc k) with h2 | ⟨i, hi, hP2, h2⟩
    · exact h2
    · have h3 := lmin_le (P := fun s => bi (setI (lt k) (lc k)) s && dh D s) (val := dv D) (D := 17) (n := 16) (hf i hi) (by show (bi _ _ && dh D _) = true; rw [hmem i hi, hP2]; rfl)
      rw [h1] at h3
      have := (dv_nI hD hP2).2
      omega
  · right
    rw [Bool.and_eq_true] at hP
    have g1 := (dv_nI hD hP.2).2
    have hset := hP.1
    rw [bi_setI (by omega) hf] at hset
    obtain ⟨i, hi, he⟩ := anyF_t.1 hset
    have he := of_decide_eq_true he
    have h4 : ldM lc lt D k ≤ dv D s := by
      have := lmin_le (P := fun i => dh D (lt k i)) (val := fun i => dv D (lt k i)) (D := 99) hi (by show dh D (lt k i) = true; rw [← he]; exact hP.2)
      simp only [← he] at this
      exact this
    have h5 : ldC lc lt D k = dv D s := h1
    rcases lmin_at (P := fun i => dh D (lt k i)) (val := fun i => dv D (lt k i)) (D := 99) (n := lc k) with h2 | ⟨j, hj, hP2, h2⟩
    · have h2 : ldM lc lt D k = 99 := h2
      omega
    · have h3 := lmin_le (P := fun s => bi (setI (lt k) (lc k)) s && dh D s) (val := dv D) (D := 17) (n := 16) (hf j hj) (by show (bi _ _ && dh D _) = true; rw [hmem j hj, hP2]; rfl)
      have h2 : ldM lc lt D k = dv D (lt k j) := h2
      have h3 : ldC lc lt D k ≤ dv D (lt k j) := h3
      omega
theorem least_loop (hb : b = 8 ∨ b = 19) (hA : ∀ s, s < 16 → A (b + 7) s = D s) (hD : ∀ s, D s = -9 ∨ ∃ k, k ≤ 16 ∧ D s = nI k) : ∀ (n s : Nat), s + n = 16 → ev 81 5 [some (.ref b), some (.int S), some (.int (nI (lmin (fun s => bi S s && dh D s) (dv D) 17 s))), some (.int (nI s))] [] (G b u v A τ) = some (some (.int (nI (lmin (fun s => bi S s && dh D s) (dv D) 17 16))), (G b u v A τ))
  | 0, s, hs => by
    have : s = 16 := by omega
    subst this
    rw [e81_5]
    simp (disch := first | omega | assumption | exact Nat.le_of_ble_eq_true rfl) only [m81, e81_0, e81_2i, e81_2n, e81_2r, e81_3, e81_4i, e81_4n, e81_4r, e81_6, e81_8, e81_11, e81_12, e81_13, e81_16, e81_19, e81_20, e81_23, e81_24, e81_25, e81_28, e81_29, e81_30, e81_33, e81_34, e81_35, e81_38i, e81_38n, e81_38r, e81_39i, e81_39n, e81_39r, e81_42, e81_45, e81_46, Bool.false_eq_true, Bool.true_eq_false, gfK, pfK, lnK, isC, alK_n, asK_n, List.getElem?_cons_zero, List.getElem?_cons_succ, List.set_cons_zero, List.set_cons_succ, List.length_cons, List.length_nil, ↓reduceIte, if_true, if_false, eq_self, and_true, true_and, and_self, Option.bind_some, Option.bind_none, Option.toList_some, Option.toList_none, List.cons_append, List.nil_append, mset_at, mset_ne, mset_2, mset_mset, Nat.reduceLT, Nat.reduceAdd, le_16, Nat.le_refl]
  | n + 1, s, hs => by
    have ih := least_loop hb hA hD n (s + 1) (by omega)
    have h16 : ¬ 16 ≤ s := by omega
    have hAs := hA s (by omega)
    rw [e81_5]
    by_cases h1 : bi S s = true
    · by_cases h2 : dh D s = true
      · obtain ⟨g1, g2⟩ := dv_nI hD h2
        rw [g1] at hAs
        have hmx := lmin_max (P := fun s => bi S s && dh D s) (val := dv D) (D := 17) s
        by_cases h3 : dv D s < lmin (fun s => bi S s && dh D s) (dv D) 17 s
        · rw [show lmin (fun s => bi S s && dh D s) (dv D) 17 (s + 1) = dv D s from by rw [lmin]; exact if_pos ⟨by rw [h1, h2]; rfl, h3⟩] at ih
          simp (disch := first | omega | assumption | exact Nat.le_of_ble_eq_true rfl) only [m81, e81_0, e81_2i, e81_2n, e81_2r, e81_3, e81_4i, e81_4n, e81_4r, e81_6, e81_8, e81_11, e81_12, e81_13, e81_16, e81_19, e81_20, e81_23, e81_24, e81_25, e81_28, e81_29, e81_30, e81_33, e81_34, e81_35, e81_38i, e81_38n, e81_38r, e81_39i, e81_39n, e81_39r, e81_42, e81_45, e81_46, Bool.false_eq_true, Bool.true_eq_false, gfK, pfK, lnK, isC, alK_n, asK_n, List.getElem?_cons_zero, List.getElem?_cons_succ, List.set_cons_zero, List.set_cons_succ, List.length_cons, List.length_nil, ↓reduceIte, if_true, if_false, eq_self, and_true, true_and, and_self, Option.bind_some, Option.bind_none, Option.toList_some, Option.toList_none, List.cons_append, List.nil_append, mset_at, mset_ne, mset_2, mset_mset, Nat.reduceLT, Nat.reduceAdd, le_16, h16, R_bit, h1, nz1, G_W0 hb, G_W7 hb, hAs, nI_not_neg, nI_ltI, h3, nI_succ', ih]
        · rw [show lmin (fun s => bi S s && dh D s) (dv D) 17 (s + 1) = lmin (fun s => bi S s && dh D s) (dv D) 17 s from by rw [lmin]; exact if_neg (fun g => h3 g.2)] at ih
          simp (disch := first | omega | assumption | exact Nat.le_of_ble_eq_true rfl) only [m81, e81_0, e81_2i, e81_2n, e81_2r, e81_3, e81_4i, e81_4n, e81_4r, e81_6, e81_8, e81_11, e81_12, e81_13, e81_16, e81_19, e81_20, e81_23, e81_24, e81_25, e81_28, e81_29, e81_30, e81_33, e81_34, e81_35, e81_38i, e81_38n, e81_38r, e81_39i, e81_39n, e81_39r, e81_42, e81_45, e81_46, Bool.false_eq_true, Bool.true_eq_false, gfK, pfK, lnK, isC, alK_n, asK_n, List.getElem?_cons_zero, List.getElem?_cons_succ, List.set_cons_zero, List.set_cons_succ, List.length_cons, List.length_nil, ↓reduceIte, if_true, if_false, eq_self, and_true, true_and, and_self, Option.bind_some, Option.bind_none, Option.toList_some, Option.toList_none, List.cons_append, List.nil_append, mset_at, mset_ne, mset_2, mset_mset, Nat.reduceLT, Nat.reduceAdd, le_16, h16, R_bit, h1, nz1, G_W0 hb, G_W7 hb, hAs, nI_not_neg, nI_ltI, h3, nI_succ', ih]
      · have g1 : D s = -9 := Decidable.not_not.1 (of_decide_eq_false (Bool.eq_false_iff.2 h2))
        rw [g1] at hAs
        rw [show lmin (fun s => bi S s && dh D s) (dv D) 17 (s + 1) = lmin (fun s => bi S s && dh D s) (dv D) 17 s from by rw [lmin]; exact if_neg (fun g => h2 ((Bool.and_eq_true _ _).mp g.1).2)] at ih
        simp (disch := first | omega | assumption | exact Nat.le_of_ble_eq_true rfl) only [m81, e81_0, e81_2i, e81_2n, e81_2r, e81_3, e81_4i, e81_4n, e81_4r, e81_6, e81_8, e81_11, e81_12, e81_13, e81_16, e81_19, e81_20, e81_23, e81_24, e81_25, e81_28, e81_29, e81_30, e81_33, e81_34, e81_35, e81_38i, e81_38n, e81_38r, e81_39i, e81_39n, e81_39r, e81_42, e81_45, e81_46, Bool.false_eq_true, Bool.true_eq_false, gfK, pfK, lnK, isC, alK_n, asK_n, List.getElem?_cons_zero, List.getElem?_cons_succ, List.set_cons_zero, List.set_cons_succ, List.length_cons, List.length_nil, ↓reduceIte, if_true, if_false, eq_self, and_true, true_and, and_self, Option.bind_some, Option.bind_none, Option.toList_some, Option.toList_none, List.cons_append, List.nil_append, mset_at, mset_ne, mset_2, mset_mset, Nat.reduceLT, Nat.reduceAdd, le_16, h16, R_bit, h1, nz1, G_W0 hb, G_W7 hb, hAs, show (-9 : Int32) < 0 from by decide, nI_succ', ih]
    · rw [show lmin (fun s => bi S s && dh D s) (dv D) 17 (s + 1) = lmin (fun s => bi S s && dh D s) (dv D) 17 s from by rw [lmin]; exact if_neg (fun g => h1 ((Bool.and_eq_true _ _).mp g.1).1)] at ih
      simp (disch := first | omega | assumption | exact Nat.le_of_ble_eq_true rfl) only [m81, e81_0, e81_2i, e81_2n, e81_2r, e81_3, e81_4i, e81_4n, e81_4r, e81_6, e81_8, e81_11, e81_12, e81_13, e81_16, e81_19, e81_20, e81_23, e81_24, e81_25, e81_28, e81_29, e81_30, e81_33, e81_34, e81_35, e81_38i, e81_38n, e81_38r, e81_39i, e81_39n, e81_39r, e81_42, e81_45, e81_46, Bool.false_eq_true, Bool.true_eq_false, gfK, pfK, lnK, isC, alK_n, asK_n, List.getElem?_cons_zero, List.getElem?_cons_succ, List.set_cons_zero, List.set_cons_succ, List.length_cons, List.length_nil, ↓reduceIte, if_true, if_false, eq_self, and_true, true_and, and_self, Option.bind_some, Option.bind_none, Option.toList_some, Option.toList_none, List.cons_append, List.nil_append, mset_at, mset_ne, mset_2, mset_mset, Nat.reduceLT, Nat.reduceAdd, le_16, h16, R_bit, h1, nI_succ', ih]
theorem W_least (hb : b = 8 ∨ b = 19) (hA : ∀ s, s < 16 → A (b + 7) s = D s) (hD : ∀ s, D s = -9 ∨ ∃ k, k ≤ 16 ∧ D s = nI k) : evM 81 [.ref b, .int S] (G b u v A τ) = some (some (.int (nI (lmin (fun s => bi S s && dh D s) (dv D) 17 16))), (G b u v A τ)) := by
  have := least_loop (b := b) (u := u) (v := v) (τ := τ) (S := S) hb hA hD 16 0 rfl
  rw [show lmin (fun s => bi S s && dh D s) (dv D) 17 0 = 17 from rfl, ← lit_0, ← lit_17] at this
  simp (disch := first | omega | assumption | exact Nat.le_of_ble_eq_true rfl) only [m81, e81_0, e81_2i, e81_2n, e81_2r, e81_3, e81_4i, e81_4n, e81_4r, e81_6, e81_8, e81_11, e81_12, e81_13, e81_16, e81_19, e81_20, e81_23, e81_24, e81_25, e81_28, e81_29, e81_30, e81_33, e81_34, e81_35, e81_38i, e81_38n, e81_38r, e81_39i, e81_39n, e81_39r, e81_42, e81_45, e81_46, Bool.false_eq_true, Bool.true_eq_false, gfK, pfK, lnK, isC, alK_n, asK_n, List.getElem?_cons_zero, List.getElem?_cons_succ, List.set_cons_zero, List.set_cons_succ, List.length_cons, List.length_nil, ↓reduceIte, if_true, if_false, eq_self, and_true, true_and, and_self, Option.bind_some, Option.bind_none, Option.toList_some, Option.toList_none, List.cons_append, List.nil_append, mset_at, mset_ne, mset_2, mset_mset, Nat.reduceLT, Nat.reduceAdd, this]
theorem late_loop (hb : b = 8 ∨ b = 19) (hC : CW A b lc lt) (hW : WF lc lt) (hA : ∀ s, s < 16 → A (b + 7) s = D s) (hD : ∀ s, D s = -9 ∨ ∃ k, k ≤ 16 ∧ D s = nI k) (hs : s < 16) : ∀ (n d : Nat) (l5 : Option Value), d + n = 8 → ev 80 8 [some (.ref b), some (.int (nI s)), some (.int (oI (lateO (fun d => decide (0 < lc (s * 8 + d))) (fun d => ldC lc lt D (s * 8 + d)) d))), some (.int (og 0 (fun d => ldC lc lt D (s * 8 + d)) (lateO (fun d => decide (0 < lc (s * 8 + d))) (fun d => ldC lc lt D (s * 8 + d)) d))), some (.int (nI d)), l5] [] (G b u v A τ) = some (some (.int (oI (lateO (fun d => decide (0 < lc (s * 8 + d))) (fun d => ldC lc lt D (s * 8 + d)) 8))), (G b u v A τ))
  | 0, d, l5, hd => by
    have : d = 8 := by omega
    subst this
    rw [e80_8]
    simp (disch := first | omega | assumption | exact Nat.le_of_ble_eq_true rfl) only [m80, e80_0, e80_2i, e80_2n, e80_2r, e80_3, e80_4i, e80_4n, e80_4r, e80_5, e80_6i, e80_6n, e80_6r, e80_10, e80_12, e80_15, e80_16, e80_17, e80_18, e80_20, e80_23, e80_26i, e80_26n, e80_26r, e80_28, e80_29, e80_30, e80_32, e80_35, e80_38, e80_39, e80_41, e80_44, e80_46, e80_47, e80_50, e80_52i, e80_52n, e80_52r, e80_53, e80_55i, e80_55n, e80_55r, e80_56i, e80_56n, e80_56r, e80_59, e80_62, e80_63, Bool.false_eq_true, Bool.true_eq_false, gfK, pfK, lnK, isC, alK_n, asK_n, List.getElem?_cons_zero, List.getElem?_cons_succ, List.set_cons_zero, List.set_cons_succ, List.length_cons, List.length_nil, ↓reduceIte, if_true, if_false, eq_self, and_true, true_and, and_self, Option.bind_some, Option.bind_none, Option.toList_some, Option.toList_none, List.cons_append, List.nil_append, mset_at, mset_ne, mset_2, mset_mset, Nat.reduceLT, Nat.reduceAdd, le_8, Nat.le_refl]
  | n + 1, d, l5, hd => by
    have ih := fun l5 => late_loop hb hC hW hA hD hs n (d + 1) l5 (by omega)
    have h8 : ¬ 8 ≤ d := by omega
    have hd' : d < 8 := by omega
    have hl4 := (hW (s * 8 + d) (by omega)).1
    have hle : evM 81 [.ref b, .int (setI (lt (s * 8 + d)) (lc (s * 8 + d)))] (G b u v A τ) = some (some (.int (nI (ldC lc lt D (s * 8 + d)))), (G b u v A τ)) := W_least hb hA hD
    have hmx : ldC lc lt D (s * 8 + d) ≤ 17 := lmin_max 16
    rw [e80_8]
    by_cases h0 : lc (s * 8 + d) = 0
    · have e : lateO (fun d => decide (0 < lc (s * 8 + d))) (fun d => ldC lc lt D (s * 8 + d)) (d + 1) = lateO (fun d => decide (0 < lc (s * 8 + d))) (fun d => ldC lc lt D (s * 8 + d)) d := by
        rw [lateO]
        cases hn : lateO (fun d => decide (0 < lc (s * 8 + d))) (fun d => ldC lc lt D (s * 8 + d)) d with
        | none => exact if_neg (by rw [decide_eq_true_eq]; omega)
        | some m => exact if_neg (fun g => by have := of_decide_eq_true g.1; omega)
      rw [e] at ih
      have hz : (nI (lc (s * 8 + d)) ≤ 0) = True := eq_true (by rw [h0]; decide)
      simp (disch := first | omega | assumption | exact Nat.le_of_ble_eq_true rfl) only [m80, e80_0, e80_2i, e80_2n, e80_2r, e80_3, e80_4i, e80_4n, e80_4r, e80_5, e80_6i, e80_6n, e80_6r, e80_10, e80_12, e80_15, e80_16, e80_17, e80_18, e80_20, e80_23, e80_26i, e80_26n, e80_26r, e80_28, e80_29, e80_30, e80_32, e80_35, e80_38, e80_39, e80_41, e80_44, e80_46, e80_47, e80_50, e80_52i, e80_52n, e80_52r, e80_53, e80_55i, e80_55n, e80_55r, e80_56i, e80_56n, e80_56r, e80_59, e80_62, e80_63, Bool.false_eq_true, Bool.true_eq_false, gfK, pfK, lnK, isC, alK_n, asK_n, List.getElem?_cons_zero, List.getElem?_cons_succ, List.set_cons_zero, List.set_cons_succ, List.length_cons, List.length_nil, ↓reduceIte, if_true, if_false, eq_self, and_true, true_and, and_self, Option.bind_some, Option.bind_none, Option.toList_some, Option.toList_none, List.cons_append, List.nil_append, mset_at, mset_ne, mset_2, mset_mset, Nat.reduceLT, Nat.reduceAdd, le_8, h8, W_lotSet hb hC hs hd', W_lotsIn hb hC hs hd', hle, G_W0 hb, hz, nI_succ', ih]
    · have hz : (nI (lc (s * 8 + d)) ≤ 0) = False := by rw [le0_nI (by omega)]; exact eq_false h0
      have hH : decide (0 < lc (s * 8 + d)) = true := decide_eq_true (by omega)
      cases hn : lateO (fun d => decide (0 < lc (s * 8 + d))) (fun d => ldC lc lt D (s * 8 + d)) d with
      | none =>
        rw [show lateO (fun d => decide (0 < lc (s * 8 + d))) (fun d => ldC lc lt D (s * 8 + d)) (d + 1) = some d from by rw [lateO, hn]; exact if_pos hH, oI_s, og_s] at ih
        simp (disch := first | omega | assumption | exact Nat.le_of_ble_eq_true rfl) only [m80, e80_0, e80_2i, e80_2n, e80_2r, e80_3, e80_4i, e80_4n, e80_4r, e80_5, e80_6i, e80_6n, e80_6r, e80_10, e80_12, e80_15, e80_16, e80_17, e80_18, e80_20, e80_23, e80_26i, e80_26n, e80_26r, e80_28, e80_29, e80_30, e80_32, e80_35, e80_38, e80_39, e80_41, e80_44, e80_46, e80_47, e80_50, e80_52i, e80_52n, e80_52r, e80_53, e80_55i, e80_55n, e80_55r, e80_56i, e80_56n, e80_56r, e80_59, e80_62, e80_63, Bool.false_eq_true, Bool.true_eq_false, gfK, pfK, lnK, isC, alK_n, asK_n, List.getElem?_cons_zero, List.getElem?_cons_succ, List.set_cons_zero, List.set_cons_succ, List.length_cons, List.length_nil, ↓reduceIte, if_true, if_false, eq_self, and_true, true_and, and_self, Option.bind_some, Option.bind_none, Option.toList_some, Option.toList_none, List.cons_append, List.nil_append, mset_at, mset_ne, mset_2, mset_mset, Nat.reduceLT, Nat.reduceAdd, le_8, h8, W_lotSet hb hC hs hd', W_lotsIn hb hC hs hd', hle, G_W0 hb, hz, oI_n, og_n, nI_succ', ih]
      | some m =>
        have hm := lateO_lt hn
        have hm9 := nI_m9 (n := m) (by omega)
        have hmx2 : ldC lc lt D (s * 8 + m) ≤ 17 := lmin_max 16
        by_cases hg : ldC lc lt D (s * 8 + d) ≤ ldC lc lt D (s * 8 + m)
        · rw [show lateO (fun d => decide (0 < lc (s * 8 + d))) (fun d => ldC lc lt D (s * 8 + d)) (d + 1) = some m from by rw [lateO, hn]; exact if_neg (by omega), oI_s, og_s] at ih
          simp (disch := first | omega | assumption | exact Nat.le_of_ble_eq_true rfl) only [m80, e80_0, e80_2i, e80_2n, e80_2r, e80_3, e80_4i, e80_4n, e80_4r, e80_5, e80_6i, e80_6n, e80_6r, e80_10, e80_12, e80_15, e80_16, e80_17, e80_18, e80_20, e80_23, e80_26i, e80_26n, e80_26r, e80_28, e80_29, e80_30, e80_32, e80_35, e80_38, e80_39, e80_41, e80_44, e80_46, e80_47, e80_50, e80_52i, e80_52n, e80_52r, e80_53, e80_55i, e80_55n, e80_55r, e80_56i, e80_56n, e80_56r, e80_59, e80_62, e80_63, Bool.false_eq_true, Bool.true_eq_false, gfK, pfK, lnK, isC, alK_n, asK_n, List.getElem?_cons_zero, List.getElem?_cons_succ, List.set_cons_zero, List.set_cons_succ, List.length_cons, List.length_nil, ↓reduceIte, if_true, if_false, eq_self, and_true, true_and, and_self, Option.bind_some, Option.bind_none, Option.toList_some, Option.toList_none, List.cons_append, List.nil_append, mset_at, mset_ne, mset_2, mset_mset, Nat.reduceLT, Nat.reduceAdd, le_8, h8, W_lotSet hb hC hs hd', W_lotsIn hb hC hs hd', hle, G_W0 hb, hz, oI_s, og_s, hm9, nI_leI, hg, nI_succ', ih]
        · rw [show lateO (fun d => decide (0 < lc (s * 8 + d))) (fun d => ldC lc lt D (s * 8 + d)) (d + 1) = some d from by rw [lateO, hn]; exact if_pos ⟨hH, by omega⟩, oI_s, og_s] at ih
          simp (disch := first | omega | assumption | exact Nat.le_of_ble_eq_true rfl) only [m80, e80_0, e80_2i, e80_2n, e80_2r, e80_3, e80_4i, e80_4n, e80_4r, e80_5, e80_6i, e80_6n, e80_6r, e80_10, e80_12, e80_15, e80_16, e80_17, e80_18, e80_20, e80_23, e80_26i, e80_26n, e80_26r, e80_28, e80_29, e80_30, e80_32, e80_35, e80_38, e80_39, e80_41, e80_44, e80_46, e80_47, e80_50, e80_52i, e80_52n, e80_52r, e80_53, e80_55i, e80_55n, e80_55r, e80_56i, e80_56n, e80_56r, e80_59, e80_62, e80_63, Bool.false_eq_true, Bool.true_eq_false, gfK, pfK, lnK, isC, alK_n, asK_n, List.getElem?_cons_zero, List.getElem?_cons_succ, List.set_cons_zero, List.set_cons_succ, List.length_cons, List.length_nil, ↓reduceIte, if_true, if_false, eq_self, and_true, true_and, and_self, Option.bind_some, Option.bind_none, Option.toList_some, Option.toList_none, List.cons_append, List.nil_append, mset_at, mset_ne, mset_2, mset_mset, Nat.reduceLT, Nat.reduceAdd, le_8, h8, W_lotSet hb hC hs hd', W_lotsIn hb hC hs hd', hle, G_W0 hb, hz, oI_s, og_s, hm9, nI_leI, hg, nI_succ', ih]
theorem W_late (hb : b = 8 ∨ b = 19) (hC : CW A b lc lt) (hW : WF lc lt) (hA : ∀ s, s < 16 → A (b + 7) s = D s) (hD : ∀ s, D s = -9 ∨ ∃ k, k ≤ 16 ∧ D s = nI k) (hs : s < 16) : evM 80 [.ref b, .int (nI s)] (G b u v A τ) = some (some (.int (oI (lateO (fun d => decide (0 < lc (s * 8 + d))) (fun d => ldC lc lt D (s * 8 + d)) 8))), (G b u v A τ)) := by
  have := late_loop (b := b) (u := u) (v := v) (τ := τ) hb hC hW hA hD hs 8 0 none rfl
  rw [show lateO (fun d => decide (0 < lc (s * 8 + d))) (fun d => ldC lc lt D (s * 8 + d)) 0 = none from rfl, oI_n, og_n, ← lit_0] at this
  simp (disch := first | omega | assumption | exact Nat.le_of_ble_eq_true rfl) only [m80, e80_0, e80_2i, e80_2n, e80_2r, e80_3, e80_4i, e80_4n, e80_4r, e80_5, e80_6i, e80_6n, e80_6r, e80_10, e80_12, e80_15, e80_16, e80_17, e80_18, e80_20, e80_23, e80_26i, e80_26n, e80_26r, e80_28, e80_29, e80_30, e80_32, e80_35, e80_38, e80_39, e80_41, e80_44, e80_46, e80_47, e80_50, e80_52i, e80_52n, e80_52r, e80_53, e80_55i, e80_55n, e80_55r, e80_56i, e80_56n, e80_56r, e80_59, e80_62, e80_63, Bool.false_eq_true, Bool.true_eq_false, gfK, pfK, lnK, isC, alK_n, asK_n, List.getElem?_cons_zero, List.getElem?_cons_succ, List.set_cons_zero, List.set_cons_succ, List.length_cons, List.length_nil, ↓reduceIte, if_true, if_false, eq_self, and_true, true_and, and_self, Option.bind_some, Option.bind_none, Option.toList_some, Option.toList_none, List.cons_append, List.nil_append, mset_at, mset_ne, mset_2, mset_mset, Nat.reduceLT, Nat.reduceAdd, this]
theorem mleast_loop (hC : MW A lc lt) (hW : WF lc lt) (hA : ∀ s, s < 16 → A 65 s = D s) (hD : ∀ s, D s = -9 ∨ ∃ k, k ≤ 16 ∧ D s = nI k) (hs : s < 16) (hd : d < 8) : ∀ (n i : Nat) (l8 : Option Value), i + n = lc (s * 8 + d) → ∃ l8', ev 171 141 [some (.ref 60), some (.int (nI s)), l2, some (.int x), some (.int y), some (.int (nI d)), some (.int (nI (lmin (fun i => dh D (lt (s * 8 + d) i)) (fun i => dv D (lt (s * 8 + d) i)) 99 i))), some (.int (nI i)), l8] [] (G b u v A τ) = ev 171 198 [some (.ref 60), some (.int (nI s)), l2, some (.int x), some (.int y), some (.int (nI d)), some (.int (nI (ldM lc lt D (s * 8 + d)))), some (.int (nI (lc (s * 8 + d)))), l8'] [] (G b u v A τ)
  | 0, i, l8, hi => by
    have h4 := (hW (s * 8 + d) (by omega)).1
    have hi : i = lc (s * 8 + d) := by omega
    refine ⟨l8, ?_⟩
    unfold ldM
    rw [e171_141]
    simp (disch := first | omega | assumption | exact Nat.le_of_ble_eq_true rfl) only [m171, e171_143, e171_144, e171_145, e171_147, e171_150, Bool.false_eq_true, Bool.true_eq_false, gfK, pfK, lnK, isC, alK_n, asK_n, List.getElem?_cons_zero, List.getElem?_cons_succ, List.set_cons_zero, List.set_cons_succ, List.length_cons, List.length_nil, ↓reduceIte, if_true, if_false, eq_self, and_true, true_and, and_self, Option.bind_some, Option.bind_none, Option.toList_some, Option.toList_none, List.cons_append, List.nil_append, mset_at, mset_ne, mset_2, mset_mset, Nat.reduceLT, Nat.reduceAdd, G_60, V_lots hC hs hd, nI_leI, Nat.le_refl, ← hi]
  | n + 1, i, l8, hi => by
    have h4 := hW (s * 8 + d) (by omega)
    have h4' := h4.1
    have h5 : ¬ lc (s * 8 + d) ≤ i := by omega
    have hi' : i < lc (s * 8 + d) := by omega
    have h6 := h4.2 i hi'
    have hAs := hA _ h6
    have hgo := V_lotOf (b := b) (u := u) (v := v) (τ := τ) hC hW hs hd hi'
    have hmx := lmin_max (P := fun i => dh D (lt (s * 8 + d) i)) (val := fun i => dv D (lt (s * 8 + d) i)) (D := 99) i
    obtain ⟨l8', ih⟩ := mleast_loop hC hW hA hD hs hd n (i + 1) (some (.int (D (lt (s * 8 + d) i)))) (by omega)
    refine ⟨l8', ?_⟩
    rw [e171_141]
    by_cases h2 : dh D (lt (s * 8 + d) i) = true
    · obtain ⟨g1, g2⟩ := dv_nI hD h2
      rw [g1] at ih hAs
      have g9 := nI_m9 (n := dv D (lt (s * 8 + d) i)) (by omega)
      by_cases h3 : dv D (lt (s * 8 + d) i) < lmin (fun i => dh D (lt (s * 8 + d) i)) (fun i => dv D (lt (s * 8 + d) i)) 99 i
      · rw [show lmin (fun i => dh D (lt (s * 8 + d) i)) (fun i => dv D (lt (s * 8 + d) i)) 99 (i + 1) = dv D (lt (s * 8 + d) i) from by rw [lmin]; exact if_pos ⟨h2, h3⟩] at ih
        simp (disch := first | omega | assumption | exact Nat.le_of_ble_eq_true rfl) only [m171, e171_143, e171_144, e171_145, e171_147, e171_150, e171_153, e171_154, e171_157, e171_158, e171_159, e171_161, e171_163, e171_166, e171_167i, e171_167n, e171_167r, e171_169, e171_171, e171_173, e171_176, e171_178, e171_180, e171_183, e171_185, e171_188, e171_190i, e171_190n, e171_190r, e171_192i, e171_192n, e171_192r, e171_195, Bool.false_eq_true, Bool.true_eq_false, gfK, pfK, lnK, isC, alK_n, asK_n, List.getElem?_cons_zero, List.getElem?_cons_succ, List.set_cons_zero, List.set_cons_succ, List.length_cons, List.length_nil, ↓reduceIte, if_true, if_false, eq_self, and_true, true_and, and_self, Option.bind_some, Option.bind_none, Option.toList_some, Option.toList_none, List.cons_append, List.nil_append, mset_at, mset_ne, mset_2, mset_mset, Nat.reduceLT, Nat.reduceAdd, G_60, G_65, V_lots hC hs hd, hgo, nI_leI, h5, hAs, g9, show ¬ lmin (fun i => dh D (lt (s * 8 + d) i)) (fun i => dv D (lt (s * 8 + d) i)) 99 i ≤ dv D (lt (s * 8 + d) i) from by omega, nI_succ', ih]
      · rw [show lmin (fun i => dh D (lt (s * 8 + d) i)) (fun i => dv D (lt (s * 8 + d) i)) 99 (i + 1) = lmin (fun i => dh D (lt (s * 8 + d) i)) (fun i => dv D (lt (s * 8 + d) i)) 99 i from by rw [lmin]; exact if_neg (fun g => h3 g.2)] at ih
        simp (disch := first | omega | assumption | exact Nat.le_of_ble_eq_true rfl) only [m171, e171_143, e171_144, e171_145, e171_147, e171_150, e171_153, e171_154, e171_157, e171_158, e171_159, e171_161, e171_163, e171_166, e171_167i, e171_167n, e171_167r, e171_169, e171_171, e171_173, e171_176, e171_178, e171_180, e171_183, e171_185, e171_188, e171_190i, e171_190n, e171_190r, e171_192i, e171_192n, e171_192r, e171_195, Bool.false_eq_true, Bool.true_eq_false, gfK, pfK, lnK, isC, alK_n, asK_n, List.getElem?_cons_zero, List.getElem?_cons_succ, List.set_cons_zero, List.set_cons_succ, List.length_cons, List.length_nil, ↓reduceIte, if_true, if_false, eq_self, and_true, true_and, and_self, Option.bind_some, Option.bind_none, Option.toList_some, Option.toList_none, List.cons_append, List.nil_append, mset_at, mset_ne, mset_2, mset_mset, Nat.reduceLT, Nat.reduceAdd, G_60, G_65, V_lots hC hs hd, hgo, nI_leI, h5, hAs, g9, show lmin (fun i => dh D (lt (s * 8 + d) i)) (fun i => dv D (lt (s * 8 + d) i)) 99 i ≤ dv D (lt (s * 8 + d) i) from by omega, nI_succ', ih]
    · have g1 : D (lt (s * 8 + d) i) = -9 := Decidable.not_not.1 (of_decide_eq_false (Bool.eq_false_iff.2 h2))
      rw [g1] at ih hAs
      rw [show lmin (fun i => dh D (lt (s * 8 + d) i)) (fun i => dv D (lt (s * 8 + d) i)) 99 (i + 1) = lmin (fun i => dh D (lt (s * 8 + d) i)) (fun i => dv D (lt (s * 8 + d) i)) 99 i from by rw [lmin]; exact if_neg (fun g => h2 g.1)] at ih
      simp (disch := first | omega | assumption | exact Nat.le_of_ble_eq_true rfl) only [m171, e171_143, e171_144, e171_145, e171_147, e171_150, e171_153, e171_154, e171_157, e171_158, e171_159, e171_161, e171_163, e171_166, e171_167i, e171_167n, e171_167r, e171_169, e171_171, e171_173, e171_176, e171_178, e171_180, e171_183, e171_185, e171_188, e171_190i, e171_190n, e171_190r, e171_192i, e171_192n, e171_192r, e171_195, Bool.false_eq_true, Bool.true_eq_false, gfK, pfK, lnK, isC, alK_n, asK_n, List.getElem?_cons_zero, List.getElem?_cons_succ, List.set_cons_zero, List.set_cons_succ, List.length_cons, List.length_nil, ↓reduceIte, if_true, if_false, eq_self, and_true, true_and, and_self, Option.bind_some, Option.bind_none, Option.toList_some, Option.toList_none, List.cons_append, List.nil_append, mset_at, mset_ne, mset_2, mset_mset, Nat.reduceLT, Nat.reduceAdd, G_60, G_65, V_lots hC hs hd, hgo, nI_leI, h5, hAs, nI_succ', ih]
theorem mlate_loop (hC : MW A lc lt) (hW : WF lc lt) (hA : ∀ s, s < 16 → A 65 s = D s) (hD : ∀ s, D s = -9 ∨ ∃ k, k ≤ 16 ∧ D s = nI k) (hs : s < 16) : ∀ (n d : Nat) (l6 l7 l8 : Option Value), d + n = 8 → ev 171 127 [some (.ref 60), some (.int (nI s)), some (.int z), some (.int (oI (lateO (fun d => decide (0 < lc (s * 8 + d))) (fun d => ldM lc lt D (s * 8 + d)) d))), some (.int (og (-1) (fun d => ldM lc lt D (s * 8 + d)) (lateO (fun d => decide (0 < lc (s * 8 + d))) (fun d => ldM lc lt D (s * 8 + d)) d))), some (.int (nI d)), l6, l7, l8] [] (G b u v A τ) = some (some (.int (oI (lateO (fun d => decide (0 < lc (s * 8 + d))) (fun d => ldM lc lt D (s * 8 + d)) 8))), (G b u v A τ))
  | 0, d, l6, l7, l8, hd => by
    have : d = 8 := by omega
    subst this
    rw [e171_127]
    simp (disch := first | omega | assumption | exact Nat.le_of_ble_eq_true rfl) only [m171, e171_129, e171_131, Bool.false_eq_true, Bool.true_eq_false, gfK, pfK, lnK, isC, alK_n, asK_n, List.getElem?_cons_zero, List.getElem?_cons_succ, List.set_cons_zero, List.set_cons_succ, List.length_cons, List.length_nil, ↓reduceIte, if_true, if_false, eq_self, and_true, true_and, and_self, Option.bind_some, Option.bind_none, Option.toList_some, Option.toList_none, List.cons_append, List.nil_append, mset_at, mset_ne, mset_2, mset_mset, Nat.reduceLT, Nat.reduceAdd, le_8, Nat.le_refl, e171_228, e171_229]
  | n + 1, d, l6, l7, l8, hd => by
    have h8 : ¬ 8 ≤ d := by omega
    have hd' : d < 8 := by omega
    have hl4 := (hW (s * 8 + d) (by omega)).1
    have hmx : ldM lc lt D (s * 8 + d) ≤ 99 := lmin_max _
    obtain ⟨l8', hin⟩ := mleast_loop (b := b) (u := u) (v := v) (τ := τ) (l2 := some (.int z)) (x := oI (lateO (fun d => decide (0 < lc (s * 8 + d))) (fun d => ldM lc lt D (s * 8 + d)) d)) (y := og (-1) (fun d => ldM lc lt D (s * 8 + d)) (lateO (fun d => decide (0 < lc (s * 8 + d))) (fun d => ldM lc lt D (s * 8 + d)) d)) hC hW hA hD hs hd' (lc (s * 8 + d)) 0 l8 (by omega)
    rw [show lmin (fun i => dh D (lt (s * 8 + d) i)) (fun i => dv D (lt (s * 8 + d) i)) 99 0 = 99 from rfl, ← lit_0, ← lit_99] at hin
    have ih := mlate_loop hC hW hA hD hs n (d + 1) (some (.int (nI (ldM lc lt D (s * 8 + d))))) (some (.int (nI (lc (s * 8 + d))))) l8' (by omega)
    rw [e171_127]
    simp (disch := first | omega | assumption | exact Nat.le_of_ble_eq_true rfl) only [m171, e171_129, e171_131, e171_134, e171_136i, e171_136n, e171_136r, e171_138, e171_139i, e171_139n, e171_139r, Bool.false_eq_true, Bool.true_eq_false, gfK, pfK, lnK, isC, alK_n, asK_n, List.getElem?_cons_zero, List.getElem?_cons_succ, List.set_cons_zero, List.set_cons_succ, List.length_cons, List.length_nil, ↓reduceIte, if_true, if_false, eq_self, and_true, true_and, and_self, Option.bind_some, Option.bind_none, Option.toList_some, Option.toList_none, List.cons_append, List.nil_append, mset_at, mset_ne, mset_2, mset_mset, Nat.reduceLT, Nat.reduceAdd, le_8, h8, hin]
    by_cases h0 : lc (s * 8 + d) = 0
    · have e : lateO (fun d => decide (0 < lc (s * 8 + d))) (fun d => ldM lc lt D (s * 8 + d)) (d + 1) = lateO (fun d => decide (0 < lc (s * 8 + d))) (fun d => ldM lc lt D (s * 8 + d)) d := by
        rw [lateO]
        cases hn : lateO (fun d => decide (0 < lc (s * 8 + d))) (fun d => ldM lc lt D (s * 8 + d)) d with
        | none => exact if_neg (by rw [decide_eq_true_eq]; omega)
        | some m => exact if_neg (fun g => by have := of_decide_eq_true g.1; omega)
      rw [e] at ih
      have hz : (nI (lc (s * 8 + d)) ≤ 0) = True := eq_true (by rw [h0]; decide)
      simp (disch := first | omega | assumption | exact Nat.le_of_ble_eq_true rfl) only [m171, e171_198, e171_199, e171_200, e171_202, e171_205, e171_208, e171_210, e171_212, e171_215, e171_217i, e171_217n, e171_217r, e171_218, e171_220i, e171_220n, e171_220r, e171_222i, e171_222n, e171_222r, e171_225, Bool.false_eq_true, Bool.true_eq_false, gfK, pfK, lnK, isC, alK_n, asK_n, List.getElem?_cons_zero, List.getElem?_cons_succ, List.set_cons_zero, List.set_cons_succ, List.length_cons, List.length_nil, ↓reduceIte, if_true, if_false, eq_self, and_true, true_and, and_self, Option.bind_some, Option.bind_none, Option.toList_some, Option.toList_none, List.cons_append, List.nil_append, mset_at, mset_ne, mset_2, mset_mset, Nat.reduceLT, Nat.reduceAdd, G_60, V_lots hC hs hd', hz, nI_succ', ih]
    · have hz : (nI (lc (s * 8 + d)) ≤ 0) = False := by rw [le0_nI (by omega)]; exact eq_false h0
      have hH : decide (0 < lc (s * 8 + d)) = true := decide_eq_true (by omega)
      cases hn : lateO (fun d => decide (0 < lc (s * 8 + d))) (fun d => ldM lc lt D (s * 8 + d)) d with
      | none =>
        rw [show lateO (fun d => decide (0 < lc (s * 8 + d))) (fun d => ldM lc lt D (s * 8 + d)) (d + 1) = some d from by rw [lateO, hn]; exact if_pos hH, oI_s, og_s] at ih
        have hm1 : ¬ nI (ldM lc lt D (s * 8 + d)) ≤ -1 := by
          rw [Int32.le_iff_toInt_le, nI_toInt (by omega), show (-1 : Int32).toInt = -1 from by decide]
          omega
        simp (disch := first | omega | assumption | exact Nat.le_of_ble_eq_true rfl) only [m171, e171_198, e171_199, e171_200, e171_202, e171_205, e171_208, e171_210, e171_212, e171_215, e171_217i, e171_217n, e171_217r, e171_218, e171_220i, e171_220n, e171_220r, e171_222i, e171_222n, e171_222r, e171_225, Bool.false_eq_true, Bool.true_eq_false, gfK, pfK, lnK, isC, alK_n, asK_n, List.getElem?_cons_zero, List.getElem?_cons_succ, List.set_cons_zero, List.set_cons_succ, List.length_cons, List.length_nil, ↓reduceIte, if_true, if_false, eq_self, and_true, true_and, and_self, Option.bind_some, Option.bind_none, Option.toList_some, Option.toList_none, List.cons_append, List.nil_append, mset_at, mset_ne, mset_2, mset_mset, Nat.reduceLT, Nat.reduceAdd, G_60, V_lots hC hs hd', hz, oI_n, og_n, hm1, nI_succ', ih]
      | some m =>
        have hm := lateO_lt hn
        have hmx2 : ldM lc lt D (s * 8 + m) ≤ 99 := lmin_max _
        by_cases hg : ldM lc lt D (s * 8 + d) ≤ ldM lc lt D (s * 8 + m)
        · rw [show lateO (fun d => decide (0 < lc (s * 8 + d))) (fun d => ldM lc lt D (s * 8 + d)) (d + 1) = some m from by rw [lateO, hn]; exact if_neg (by omega), oI_s, og_s] at ih
          simp (disch := first | omega | assumption | exact Nat.le_of_ble_eq_true rfl) only [m171, e171_198, e171_199, e171_200, e171_202, e171_205, e171_208, e171_210, e171_212, e171_215, e171_217i, e171_217n, e171_217r, e171_218, e171_220i, e171_220n, e171_220r, e171_222i, e171_222n, e171_222r, e171_225, Bool.false_eq_true, Bool.true_eq_false, gfK, pfK, lnK, isC, alK_n, asK_n, List.getElem?_cons_zero, List.getElem?_cons_succ, List.set_cons_zero, List.set_cons_succ, List.length_cons, List.length_nil, ↓reduceIte, if_true, if_false, eq_self, and_true, true_and, and_self, Option.bind_some, Option.bind_none, Option.toList_some, Option.toList_none, List.cons_append, List.nil_append, mset_at, mset_ne, mset_2, mset_mset, Nat.reduceLT, Nat.reduceAdd, G_60, V_lots hC hs hd', hz, oI_s, og_s, nI_leI, hg, nI_succ', ih]
        · rw [show lateO (fun d => decide (0 < lc (s * 8 + d))) (fun d => ldM lc lt D (s * 8 + d)) (d + 1) = some d from by rw [lateO, hn]; exact if_pos ⟨hH, by omega⟩, oI_s, og_s] at ih
          simp (disch := first | omega | assumption | exact Nat.le_of_ble_eq_true rfl) only [m171, e171_198, e171_199, e171_200, e171_202, e171_205, e171_208, e171_210, e171_212, e171_215, e171_217i, e171_217n, e171_217r, e171_218, e171_220i, e171_220n, e171_220r, e171_222i, e171_222n, e171_222r, e171_225, Bool.false_eq_true, Bool.true_eq_false, gfK, pfK, lnK, isC, alK_n, asK_n, List.getElem?_cons_zero, List.getElem?_cons_succ, List.set_cons_zero, List.set_cons_succ, List.length_cons, List.length_nil, ↓reduceIte, if_true, if_false, eq_self, and_true, true_and, and_self, Option.bind_some, Option.bind_none, Option.toList_some, Option.toList_none, List.cons_append, List.nil_append, mset_at, mset_ne, mset_2, mset_mset, Nat.reduceLT, Nat.reduceAdd, G_60, V_lots hC hs hd', hz, oI_s, og_s, nI_leI, hg, nI_succ', ih]
/-- INSTEAD -/
def insP (lc : Nat → Nat) (lt : Nat → Nat → Nat) (rest br sf : Int32) (pr : Nat → Nat) (s q : Nat) : Int32 := if letP lc lt sf s q = true then nI q else match nearO (letP lc lt sf s) (fun d => gp (pr d) (pr q)) 8 with
  | some m => nI m
  | none => if bi rest s = true then -9 else oI (lateO (fun d => decide (0 < lc (s * 8 + d))) (fun d => ldC lc lt (dm lc lt br sf 16) (s * 8 + d)) 8)
theorem insP_val {rest br : Int32} (hq : q < 8) : insP lc lt rest br sf pr s q = -9 ∨ ∃ d, d < 8 ∧ insP lc lt rest br sf pr s q = nI d := by
  unfold insP
  split
  · exact Or.inr ⟨q, hq, rfl⟩
  · split
    · rename_i m hm
      exact Or.inr ⟨m, nearO_lt hm, rfl⟩
    · split
      · exact Or.inl rfl
      · cases hl : lateO (fun d => decide (0 < lc (s * 8 + d))) (fun d => ldC lc lt (dm lc lt br sf 16) (s * 8 + d)) 8 with
        | none => exact Or.inl rfl
        | some m => exact Or.inr ⟨m, lateO_lt hl, rfl⟩
theorem R_insteadOf (hb : b = 8 ∨ b = 19) (hR : WR b A lc lt) (hp : ∀ d, d < 8 → A 57 d = nI (pr d)) (hp20 : ∀ d, d < 8 → pr d ≤ 20) (hs : s < 16) (hq : q < 8) : evM 97 [.ref 0, .int (nI s), .int (nI q)] (G b u v A τ) = some (some (.int (insP lc lt (A b 4) (A b 5) (A b 6) pr s q)), (G b u v A τ)) := by
  have hl := W_isLet (b := b) (u := u) (v := v) (τ := τ) hb hR hs hq
  have hn := R_near (b := b) (u := u) (v := v) (τ := τ) hb hR hp hp20 hs hq
  have hd := W_late (b := b) (u := u) (v := v) (τ := τ) (D := dm lc lt (A b 5) (A b 6) 16) hb hR.2.1 hR.1 (fun s hs => (hR.2.2.2.2.2.2 s hs).2.1) (dm_val 16) hs
  unfold insP
  by_cases h1 : letP lc lt (A b 6) s q = true
  · rw [h1] at hl
    rw [if_pos h1]
    simp (disch := first | omega | assumption | exact Nat.le_of_ble_eq_true rfl) only [m97, e97_0, e97_1, e97_4, e97_5, e97_6, e97_9, e97_12, e97_13, e97_14, e97_15, e97_16, e97_17, e97_20i, e97_20n, e97_20r, e97_21, e97_22, e97_24, e97_27, e97_28, e97_31, e97_34, e97_35, e97_38, e97_41, e97_42, e97_43, e97_44, e97_47, e97_48, e97_51, Bool.false_eq_true, Bool.true_eq_false, gfK, pfK, lnK, isC, alK_n, asK_n, List.getElem?_cons_zero, List.getElem?_cons_succ, List.set_cons_zero, List.set_cons_succ, List.length_cons, List.length_nil, ↓reduceIte, if_true, if_false, eq_self, and_true, true_and, and_self, Option.bind_some, Option.bind_none, Option.toList_some, Option.toList_none, List.cons_append, List.nil_append, mset_at, mset_ne, mset_2, mset_mset, Nat.reduceLT, Nat.reduceAdd, G_0, G_W0 hb, hl, bI_t, nz1]
  · rw [Bool.eq_false_iff.2 h1] at hl
    rw [if_neg h1]
    cases hO : nearO (letP lc lt (A b 6) s) (fun d => gp (pr d) (pr q)) 8 with
    | some m =>
      have hm := nearO_lt hO
      have hm9 := nI_m9 (n := m) (by omega)
      rw [hO, oI_s] at hn
      simp (disch := first | omega | assumption | exact Nat.le_of_ble_eq_true rfl) only [m97, e97_0, e97_1, e97_4, e97_5, e97_6, e97_9, e97_12, e97_13, e97_14, e97_15, e97_16, e97_17, e97_20i, e97_20n, e97_20r, e97_21, e97_22, e97_24, e97_27, e97_28, e97_31, e97_34, e97_35, e97_38, e97_41, e97_42, e97_43, e97_44, e97_47, e97_48, e97_51, Bool.false_eq_true, Bool.true_eq_false, gfK, pfK, lnK, isC, alK_n, asK_n, List.getElem?_cons_zero, List.getElem?_cons_succ, List.set_cons_zero, List.set_cons_succ, List.length_cons, List.length_nil, ↓reduceIte, if_true, if_false, eq_self, and_true, true_and, and_self, Option.bind_some, Option.bind_none, Option.toList_some, Option.toList_none, List.cons_append, List.nil_append, mset_at, mset_ne, mset_2, mset_mset, Nat.reduceLT, Nat.reduceAdd, G_0, G_W0 hb, hl, bI_f, hn, hm9]
    | none =>
      rw [hO, oI_n] at hn
      by_cases h2 : bi (A b 4) s = true
      · simp (disch := first | omega | assumption | exact Nat.le_of_ble_eq_true rfl) only [m97, e97_0, e97_1, e97_4, e97_5, e97_6, e97_9, e97_12, e97_13, e97_14, e97_15, e97_16, e97_17, e97_20i, e97_20n, e97_20r, e97_21, e97_22, e97_24, e97_27, e97_28, e97_31, e97_34, e97_35, e97_38, e97_41, e97_42, e97_43, e97_44, e97_47, e97_48, e97_51, Bool.false_eq_true, Bool.true_eq_false, gfK, pfK, lnK, isC, alK_n, asK_n, List.getElem?_cons_zero, List.getElem?_cons_succ, List.set_cons_zero, List.set_cons_succ, List.length_cons, List.length_nil, ↓reduceIte, if_true, if_false, eq_self, and_true, true_and, and_self, Option.bind_some, Option.bind_none, Option.toList_some, Option.toList_none, List.cons_append, List.nil_append, mset_at, mset_ne, mset_2, mset_mset, Nat.reduceLT, Nat.reduceAdd, G_0, G_W0 hb, hl, bI_f, hn, R_bit, h2, nz1]
      · simp (disch := first | omega | assumption | exact Nat.le_of_ble_eq_true rfl) only [m97, e97_0, e97_1, e97_4, e97_5, e97_6, e97_9, e97_12, e97_13, e97_14, e97_15, e97_16, e97_17, e97_20i, e97_20n, e97_20r, e97_21, e97_22, e97_24, e97_27, e97_28, e97_31, e97_34, e97_35, e97_38, e97_41, e97_42, e97_43, e97_44, e97_47, e97_48, e97_51, Bool.false_eq_true, Bool.true_eq_false, gfK, pfK, lnK, isC, alK_n, asK_n, List.getElem?_cons_zero, List.getElem?_cons_succ, List.set_cons_zero, List.set_cons_succ, List.length_cons, List.length_nil, ↓reduceIte, if_true, if_false, eq_self, and_true, true_and, and_self, Option.bind_some, Option.bind_none, Option.toList_some, Option.toList_none, List.cons_append, List.nil_append, mset_at, mset_ne, mset_2, mset_mset, Nat.reduceLT, Nat.reduceAdd, G_0, G_W0 hb, hl, bI_f, hn, R_bit, h2, hd]
theorem ld_lt (hW : WF lc lt) (hs : s < 16) (hD : ∀ s, D s = -9 ∨ ∃ k, k ≤ 16 ∧ D s = nI k) : lateO (fun d => decide (0 < lc (s * 8 + d))) (fun d => ldC lc lt D (s * 8 + d)) 8 = lateO (fun d => decide (0 < lc (s * 8 + d))) (fun d => ldM lc lt D (s * 8 + d)) 8 := by
  refine lateO_congr fun i j hi hj => ?_
  have h1 := ld_rel (lc := lc) (lt := lt) (k := s * 8 + i) hW (by omega) hD
  have h2 := ld_rel (lc := lc) (lt := lt) (k := s * 8 + j) hW (by omega) hD
  omega
theorem V_insteadOf (hR : WR b A lc lt) (hp : ∀ d, d < 8 → A 67 d = nI (pr d)) (hp20 : ∀ d, d < 8 → pr d ≤ 20) (hs : s < 16) (hq : q < 8) : evM 171 [.ref 60, .int (nI s), .int (nI q)] (G b u v A τ) = some (some (.int (insP lc lt (A b 4) (A b 5) (A b 6) pr s q)), (G b u v A τ)) := by
  obtain ⟨r1, r2, r3, ⟨a0, a1, a2, a3⟩, r5, ⟨a4, a5, a6, a7⟩, r7⟩ := hR
  have hl := V_isLet (b := b) (u := u) (v := v) (τ := τ) r3 r1 hs hq
  obtain ⟨l5, hn⟩ := mnear_loop (b := b) (u := u) (v := v) (τ := τ) (l6 := none) (l7 := none) (l8 := none) r3 r1 hp hp20 hs hq 8 0 none rfl
  have hd := mlate_loop (b := b) (u := u) (v := v) (τ := τ) (z := nI q) (D := dm lc lt (A b 5) (A b 6) 16) r3 r1 (fun s hs => (r7 s hs).2.2.1.trans (r7 s hs).2.1) (dm_val 16) hs 8 0 none none none rfl
  rw [show nearO (letP lc lt (A 60 15) s) (fun d => gp (pr d) (pr q)) 0 = none from rfl, oI_n, ← lit_0] at hn
  rw [show lateO (fun d => decide (0 < lc (s * 8 + d))) (fun d => ldM lc lt (dm lc lt (A b 5) (A b 6) 16) (s * 8 + d)) 0 = none from rfl, oI_n, og_n, ← ld_lt r1 hs (dm_val 16), ← lit_0] at hd
  rw [← a7] at hl hn
  unfold insP
  by_cases h1 : letP lc lt (A b 6) s q = true
  · rw [h1] at hl
    rw [if_pos h1]
    simp (disch := first | omega | assumption | exact Nat.le_of_ble_eq_true rfl) only [m171, e171_0, e171_1, e171_2, e171_3, e171_6, e171_9, e171_10, Bool.false_eq_true, Bool.true_eq_false, gfK, pfK, lnK, isC, alK_n, asK_n, List.getElem?_cons_zero, List.getElem?_cons_succ, List.set_cons_zero, List.set_cons_succ, List.length_cons, List.length_nil, ↓reduceIte, if_true, if_false, eq_self, and_true, true_and, and_self, Option.bind_some, Option.bind_none, Option.toList_some, Option.toList_none, List.cons_append, List.nil_append, mset_at, mset_ne, mset_2, mset_mset, Nat.reduceLT, Nat.reduceAdd, G_60, hl, bI_t, nz1]
  · rw [Bool.eq_false_iff.2 h1] at hl
    rw [if_neg h1]
    cases hO : nearO (letP lc lt (A b 6) s) (fun d => gp (pr d) (pr q)) 8 with
    | some m =>
      have hm := nearO_lt hO
      have hm9 := nI_m9 (n := m) (by omega)
      rw [hO, oI_s] at hn
      simp (disch := first | omega | assumption | exact Nat.le_of_ble_eq_true rfl) only [m171, e171_0, e171_1, e171_2, e171_3, e171_6, e171_9, e171_10, e171_11, e171_13i, e171_13n, e171_13r, e171_14, e171_15i, e171_15n, e171_15r, Bool.false_eq_true, Bool.true_eq_false, gfK, pfK, lnK, isC, alK_n, asK_n, List.getElem?_cons_zero, List.getElem?_cons_succ, List.set_cons_zero, List.set_cons_succ, List.length_cons, List.length_nil, ↓reduceIte, if_true, if_false, eq_self, and_true, true_and, and_self, Option.bind_some, Option.bind_none, Option.toList_some, Option.toList_none, List.cons_append, List.nil_append, mset_at, mset_ne, mset_2, mset_mset, Nat.reduceLT, Nat.reduceAdd, G_60, hl, bI_f, hn]
      simp (disch := first | omega | assumption | exact Nat.le_of_ble_eq_true rfl) only [m171, e171_101, e171_102, e171_104, e171_107, e171_108, e171_111, e171_112, e171_113, e171_114, e171_115, e171_116, e171_119, e171_120, Bool.false_eq_true, Bool.true_eq_false, gfK, pfK, lnK, isC, alK_n, asK_n, List.getElem?_cons_zero, List.getElem?_cons_succ, List.set_cons_zero, List.set_cons_succ, List.length_cons, List.length_nil, ↓reduceIte, if_true, if_false, eq_self, and_true, true_and, and_self, Option.bind_some, Option.bind_none, Option.toList_some, Option.toList_none, List.cons_append, List.nil_append, mset_at, mset_ne, mset_2, mset_mset, Nat.reduceLT, Nat.reduceAdd, G_60, hm9]
    | none =>
      rw [hO, oI_n] at hn
      by_cases h2 : bi (A 60 10) s = true
      · simp (disch := first | omega | assumption | exact Nat.le_of_ble_eq_true rfl) only [m171, e171_0, e171_1, e171_2, e171_3, e171_6, e171_9, e171_10, e171_11, e171_13i, e171_13n, e171_13r, e171_14, e171_15i, e171_15n, e171_15r, Bool.false_eq_true, Bool.true_eq_false, gfK, pfK, lnK, isC, alK_n, asK_n, List.getElem?_cons_zero, List.getElem?_cons_succ, List.set_cons_zero, List.set_cons_succ, List.length_cons, List.length_nil, ↓reduceIte, if_true, if_false, eq_self, and_true, true_and, and_self, Option.bind_some, Option.bind_none, Option.toList_some, Option.toList_none, List.cons_append, List.nil_append, mset_at, mset_ne, mset_2, mset_mset, Nat.reduceLT, Nat.reduceAdd, G_60, hl, bI_f, hn]
        simp (disch := first | omega | assumption | exact Nat.le_of_ble_eq_true rfl) only [m171, e171_101, e171_102, e171_104, e171_107, e171_108, e171_111, e171_112, e171_113, e171_114, e171_115, e171_116, e171_119, e171_120, Bool.false_eq_true, Bool.true_eq_false, gfK, pfK, lnK, isC, alK_n, asK_n, List.getElem?_cons_zero, List.getElem?_cons_succ, List.set_cons_zero, List.set_cons_succ, List.length_cons, List.length_nil, ↓reduceIte, if_true, if_false, eq_self, and_true, true_and, and_self, Option.bind_some, Option.bind_none, Option.toList_some, Option.toList_none, List.cons_append, List.nil_append, mset_at, mset_ne, mset_2, mset_mset, Nat.reduceLT, Nat.reduceAdd, G_60, shr_1, a3, h2]
      · simp (disch := first | omega | assumption | exact Nat.le_of_ble_eq_true rfl) only [m171, e171_0, e171_1, e171_2, e171_3, e171_6, e171_9, e171_10, e171_11, e171_13i, e171_13n, e171_13r, e171_14, e171_15i, e171_15n, e171_15r, Bool.false_eq_true, Bool.true_eq_false, gfK, pfK, lnK, isC, alK_n, asK_n, List.getElem?_cons_zero, List.getElem?_cons_succ, List.set_cons_zero, List.set_cons_succ, List.length_cons, List.length_nil, ↓reduceIte, if_true, if_false, eq_self, and_true, true_and, and_self, Option.bind_some, Option.bind_none, Option.toList_some, Option.toList_none, List.cons_append, List.nil_append, mset_at, mset_ne, mset_2, mset_mset, Nat.reduceLT, Nat.reduceAdd, G_60, hl, bI_f, hn]
        simp (disch := first | omega | assumption | exact Nat.le_of_ble_eq_true rfl) only [m171, e171_101, e171_102, e171_104, e171_107, e171_108, e171_111, e171_112, e171_113, e171_114, e171_115, e171_116, e171_119, e171_120, e171_121, e171_122i, e171_122n, e171_122r, e171_124, e171_125i, e171_125n, e171_125r, Bool.false_eq_true, Bool.true_eq_false, gfK, pfK, lnK, isC, alK_n, asK_n, List.getElem?_cons_zero, List.getElem?_cons_succ, List.set_cons_zero, List.set_cons_succ, List.length_cons, List.length_nil, ↓reduceIte, if_true, if_false, eq_self, and_true, true_and, and_self, Option.bind_some, Option.bind_none, Option.toList_some, Option.toList_none, List.cons_append, List.nil_append, mset_at, mset_ne, mset_2, mset_mset, Nat.reduceLT, Nat.reduceAdd, G_60, shr_1, a3, h2, hd]
theorem w_instead (hb : b = 8 ∨ b = 19) (hR : WR b A lc lt) (h0 : A 60 0 = 0) (hp : ∀ d, d < 8 → A 57 d = nI (pr d)) (hp' : ∀ d, d < 8 → A 67 d = nI (pr d)) (hp20 : ∀ d, d < 8 → pr d ≤ 20) (x y : Int32) : ∃ r, evM 96 [.ref 0, .int x, .int y] (G b u v A τ) = some (some (.int r), (G b u v A τ)) ∧ evM 170 [.ref 60, .int x, .int y] (G b u v A τ) = some (some (.int r), (G b u v A τ)) := by
  rcases idx x (n := 16) (by omega) with hx | ⟨s, hs, rfl⟩
  · refine ⟨-1, ?_, ?_⟩
    · simp (disch := first | omega | assumption | exact Nat.le_of_ble_eq_true rfl) only [m96, e96_0, e96_1, e96_4, e96_7, e96_8, e96_11, e96_14, e96_15, e96_16, e96_17, e96_20, e96_23, e96_24, Bool.false_eq_true, Bool.true_eq_false, gfK, pfK, lnK, isC, alK_n, asK_n, List.getElem?_cons_zero, List.getElem?_cons_succ, List.set_cons_zero, List.set_cons_succ, List.length_cons, List.length_nil, ↓reduceIte, if_true, if_false, eq_self, and_true, true_and, and_self, Option.bind_some, Option.bind_none, Option.toList_some, Option.toList_none, List.cons_append, List.nil_append, mset_at, mset_ne, mset_2, mset_mset, Nat.reduceLT, Nat.reduceAdd, R_isStateN hx]
    · simp (disch := first | omega | assumption | exact Nat.le_of_ble_eq_true rfl) only [m170, e170_0, e170_1, e170_2, e170_5, e170_6, e170_9, e170_12, e170_13, e170_16, e170_19, e170_20, e170_21, e170_22, e170_25, e170_28, e170_29, Bool.false_eq_true, Bool.true_eq_false, gfK, pfK, lnK, isC, alK_n, asK_n, List.getElem?_cons_zero, List.getElem?_cons_succ, List.set_cons_zero, List.set_cons_succ, List.length_cons, List.length_nil, ↓reduceIte, if_true, if_false, eq_self, and_true, true_and, and_self, Option.bind_some, Option.bind_none, Option.toList_some, Option.toList_none, List.cons_append, List.nil_append, mset_at, mset_ne, mset_2, mset_mset, Nat.reduceLT, Nat.reduceAdd, G_60, G_thr h0, M_isStateN hx]
  · rcases idx y (n := 8) (by omega) with hx | ⟨d, hd, rfl⟩
    · refine ⟨-1, ?_, ?_⟩
      · simp (disch := first | omega | assumption | exact Nat.le_of_ble_eq_true rfl) only [m96, e96_0, e96_1, e96_4, e96_7, e96_8, e96_11, e96_14, e96_15, e96_16, e96_17, e96_20, e96_23, e96_24, Bool.false_eq_true, Bool.true_eq_false, gfK, pfK, lnK, isC, alK_n, asK_n, List.getElem?_cons_zero, List.getElem?_cons_succ, List.set_cons_zero, List.set_cons_succ, List.length_cons, List.length_nil, ↓reduceIte, if_true, if_false, eq_self, and_true, true_and, and_self, Option.bind_some, Option.bind_none, Option.toList_some, Option.toList_none, List.cons_append, List.nil_append, mset_at, mset_ne, mset_2, mset_mset, Nat.reduceLT, Nat.reduceAdd, R_isState hs, R_isDoingN hx, nz1]
      · simp (disch := first | omega | assumption | exact Nat.le_of_ble_eq_true rfl) only [m170, e170_0, e170_1, e170_2, e170_5, e170_6, e170_9, e170_12, e170_13, e170_16, e170_19, e170_20, e170_21, e170_22, e170_25, e170_28, e170_29, Bool.false_eq_true, Bool.true_eq_false, gfK, pfK, lnK, isC, alK_n, asK_n, List.getElem?_cons_zero, List.getElem?_cons_succ, List.set_cons_zero, List.set_cons_succ, List.length_cons, List.length_nil, ↓reduceIte, if_true, if_false, eq_self, and_true, true_and, and_self, Option.bind_some, Option.bind_none, Option.toList_some, Option.toList_none, List.cons_append, List.nil_append, mset_at, mset_ne, mset_2, mset_mset, Nat.reduceLT, Nat.reduceAdd, G_60, G_thr h0, M_isState hs, M_isDoingN hx, nz1]
    · refine ⟨insP lc lt (A b 4) (A b 5) (A b 6) pr s d, ?_, ?_⟩
      · simp (disch := first | omega | assumption | exact Nat.le_of_ble_eq_true rfl) only [m96, e96_0, e96_1, e96_4, e96_7, e96_8, e96_11, e96_14, e96_15, e96_16, e96_17, e96_20, e96_23, e96_24, Bool.false_eq_true, Bool.true_eq_false, gfK, pfK, lnK, isC, alK_n, asK_n, List.getElem?_cons_zero, List.getElem?_cons_succ, List.set_cons_zero, List.set_cons_succ, List.length_cons, List.length_nil, ↓reduceIte, if_true, if_false, eq_self, and_true, true_and, and_self, Option.bind_some, Option.bind_none, Option.toList_some, Option.toList_none, List.cons_append, List.nil_append, mset_at, mset_ne, mset_2, mset_mset, Nat.reduceLT, Nat.reduceAdd, R_isState hs, R_isDoing hd, nz1, G_0, R_insteadOf hb hR hp hp20 hs hd]
      · simp (disch := first | omega | assumption | exact Nat.le_of_ble_eq_true rfl) only [m170, e170_0, e170_1, e170_2, e170_5, e170_6, e170_9, e170_12, e170_13, e170_16, e170_19, e170_20, e170_21, e170_22, e170_25, e170_28, e170_29, Bool.false_eq_true, Bool.true_eq_false, gfK, pfK, lnK, isC, alK_n, asK_n, List.getElem?_cons_zero, List.getElem?_cons_succ, List.set_cons_zero, List.set_cons_succ, List.length_cons, List.length_nil, ↓reduceIte, if_true, if_false, eq_self, and_true, true_and, and_self, Option.bind_some, Option.bind_none, Option.toList_some, Option.toList_none, List.cons_append, List.nil_append, mset_at, mset_ne, mset_2, mset_mset, Nat.reduceLT, Nat.reduceAdd, G_60, G_thr h0, M_isState hs, M_isDoing hd, nz1, V_insteadOf hR hp' hp20 hs hd]
end LATE
