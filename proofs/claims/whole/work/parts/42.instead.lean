/-! INSTEAD on both sides. -/
def oI : Option Nat → Int32
  | none => -9
  | some m => nI m
/-- the best so far, of n: first by being allowed, then by less (gap) -/
def nearO (L : Nat → Bool) (gap : Nat → Nat) : Nat → Option Nat
  | 0 => none
  | n + 1 => match nearO L gap n with
    | none => if L n = true then some n else none
    | some m => if L n = true ∧ gap n < gap m then some n else some m
theorem oI_n : oI none = -9 := rfl
theorem oI_s {m : Nat} : oI (some m) = nI m := rfl
def og (z : Int32) (gap : Nat → Nat) : Option Nat → Int32
  | none => z
  | some m => nI (gap m)
theorem og_n {z : Int32} {gap : Nat → Nat} : og z gap none = z := rfl
theorem og_s {z : Int32} {gap : Nat → Nat} {m : Nat} : og z gap (some m) = nI (gap m) := rfl
def gp (p q : Nat) : Nat := (p - q) + (q - p)
theorem gp_abs' : ∀ p, p < 21 → ∀ q, q < 21 → (if (0 : Int32) ≤ nI p - nI q then nI p - nI q else 0 - (nI p - nI q)) = nI ((p - q) + (q - p)) := by decide +kernel
theorem gp_neg' : ∀ p, p < 21 → ∀ q, q < 21 → (if (0 : Int32) ≤ nI p - nI q then nI p - nI q else -(nI p - nI q)) = nI ((p - q) + (q - p)) := by decide +kernel
theorem gp_abs {p q : Nat} (hp : p ≤ 20) (hq : q ≤ 20) : (if (0 : Int32) ≤ nI p - nI q then nI p - nI q else 0 - (nI p - nI q)) = nI (gp p q) := gp_abs' p (by omega) q (by omega)
theorem gp_le {p q : Nat} (hp : p ≤ 20) (hq : q ≤ 20) : gp p q ≤ 20 := by unfold gp; omega
theorem nearO_lt {L : Nat → Bool} {gap : Nat → Nat} : ∀ {n m : Nat}, nearO L gap n = some m → m < n
  | 0, m, h => by cases h
  | n + 1, m, h => by
    rw [nearO] at h
    split at h
    · split at h
      · cases h; omega
      · cases h
    · rename_i k hk
      split at h
      · cases h; omega
      · cases h
        have := nearO_lt hk
        omega
/-- a least value, D if there is none -/
def lmin (P : Nat → Bool) (val : Nat → Nat) (D : Nat) : Nat → Nat
  | 0 => D
  | n + 1 => if P n = true ∧ val n < lmin P val D n then val n else lmin P val D n
theorem lmin_le {P : Nat → Bool} {val : Nat → Nat} {D : Nat} : ∀ {n j : Nat}, j < n → P j = true → lmin P val D n ≤ val j
  | n + 1, j, hj, hP => by
    rw [lmin]
    by_cases h : j = n
    · subst h
      split
      · omega
      · rename_i g
        have : ¬ val j < lmin P val D j := fun q => g ⟨hP, q⟩
        omega
    · have := lmin_le (n := n) (D := D) (val := val) (by omega) hP
      split
      · rename_i g
        omega
      · omega
theorem lmin_at {P : Nat → Bool} {val : Nat → Nat} {D : Nat} : ∀ {n : Nat}, lmin P val D n = D ∨ ∃ j, j < n ∧ P j = true ∧ lmin P val D n = val j
  | 0 => Or.inl rfl
  | n + 1 => by
    rw [lmin]
    split
    · rename_i h
      exact Or.inr ⟨n, by omega, h.1, rfl⟩
    · rcases lmin_at (n := n) (P := P) (val := val) (D := D) with h | ⟨j, h1, h2, h3⟩
      · exact Or.inl h
      · exact Or.inr ⟨j, by omega, h2, h3⟩
theorem lmin_max {P : Nat → Bool} {val : Nat → Nat} {D : Nat} : ∀ n, lmin P val D n ≤ D
  | 0 => Nat.le_refl D
  | n + 1 => by
    have := lmin_max (P := P) (val := val) (D := D) n
    rw [lmin]
    split <;> omega
section INSTEAD
variable {b : Nat} {u v : Int64} {A : Nat → Nat → Int32} {τ : Nat × Nat × Nat × (Nat → Int32)} {lc : Nat → Nat} {lt : Nat → Nat → Nat} {s d i q : Nat} {S sf x y z : Int32} {σ : mS} {pr : Nat → Nat} {l5 l6 l7 l8 : Option Value}
theorem R_priceOf (hp : ∀ d, d < 8 → A 57 d = nI (pr d)) (hd : d < 8) : evM 99 [.ref 0, .int (nI d)] (G b u v A τ) = some (some (.int (nI (pr d))), (G b u v A τ)) := by
  have h := hp d hd
  simp (disch := first | omega | assumption | exact Nat.le_of_ble_eq_true rfl) only [m99, e99_0, e99_1, e99_4, e99_7, e99_8, e99_11, e99_12, e99_13, e99_16, e99_17, Bool.false_eq_true, Bool.true_eq_false, gfK, pfK, lnK, isC, alK_n, asK_n, List.getElem?_cons_zero, List.getElem?_cons_succ, List.set_cons_zero, List.set_cons_succ, List.length_cons, List.length_nil, ↓reduceIte, if_true, if_false, eq_self, and_true, true_and, and_self, Option.bind_some, Option.bind_none, Option.toList_some, Option.toList_none, List.cons_append, List.nil_append, mset_at, mset_ne, mset_2, mset_mset, Nat.reduceLT, Nat.reduceAdd, R_isDoing hd, nz1, G_0, G_57, h]
theorem near_loop (hb : b = 8 ∨ b = 19) (hR : WR b A lc lt) (hp : ∀ d, d < 8 → A 57 d = nI (pr d)) (hp20 : ∀ d, d < 8 → pr d ≤ 20) (hs : s < 16) (hq : q < 8) : ∀ (n d : Nat) (l6 : Option Value), d + n = 8 → ev 98 9 [some (.ref 0), some (.int (nI s)), some (.int (nI q)), some (.int (oI (nearO (letP lc lt (A b 6) s) (fun d => gp (pr d) (pr q)) d))), some (.int (og 0 (fun d => gp (pr d) (pr q)) (nearO (letP lc lt (A b 6) s) (fun d => gp (pr d) (pr q)) d))), some (.int (nI d)), l6] [] (G b u v A τ) = some (some (.int (oI (nearO (letP lc lt (A b 6) s) (fun d => gp (pr d) (pr q)) 8))), (G b u v A τ))
  | 0, d, l6, hd => by
    have : d = 8 := by omega
    subst this
    rw [e98_9]
    simp (disch := first | omega | assumption | exact Nat.le_of_ble_eq_true rfl) only [m98, e98_0, e98_2i, e98_2n, e98_2r, e98_3, e98_4i, e98_4n, e98_4r, e98_6, e98_7i, e98_7n, e98_7r, e98_11, e98_13, e98_16, e98_17, e98_20, e98_22, e98_23, e98_24, e98_25, e98_28, e98_29, e98_32i, e98_32n, e98_32r, e98_34, e98_35, e98_38, e98_39, e98_41, e98_44, e98_47, e98_48, e98_50, e98_53, e98_55, e98_57, e98_60, e98_62i, e98_62n, e98_62r, e98_63, e98_65i, e98_65n, e98_65r, e98_67i, e98_67n, e98_67r, e98_70, e98_73, e98_74, Bool.false_eq_true, Bool.true_eq_false, gfK, pfK, lnK, isC, alK_n, asK_n, List.getElem?_cons_zero, List.getElem?_cons_succ, List.set_cons_zero, List.set_cons_succ, List.length_cons, List.length_nil, ↓reduceIte, if_true, if_false, eq_self, and_true, true_and, and_self, Option.bind_some, Option.bind_none, Option.toList_some, Option.toList_none, List.cons_append, List.nil_append, mset_at, mset_ne, mset_2, mset_mset, Nat.reduceLT, Nat.reduceAdd, le_8, Nat.le_refl]
  | n + 1, d, l6, hd => by
    have ih := fun l6 => near_loop hb hR hp hp20 hs hq n (d + 1) l6 (by omega)
    have h8 : ¬ 8 ≤ d := by omega
    have hd' : d < 8 := by omega
    have p1 := hp20 d hd'
    have p2 := hp20 q hq
    have hpd := hp d hd'
    rw [e98_9]
    by_cases hl : letP lc lt (A b 6) s d = true
    · cases hn : nearO (letP lc lt (A b 6) s) (fun d => gp (pr d) (pr q)) d with
      | none =>
        rw [show nearO (letP lc lt (A b 6) s) (fun d => gp (pr d) (pr q)) (d + 1) = some d from by rw [nearO, hn]; exact if_pos hl, oI_s, og_s] at ih
        simp (disch := first | omega | assumption | exact Nat.le_of_ble_eq_true rfl) only [m98, e98_0, e98_2i, e98_2n, e98_2r, e98_3, e98_4i, e98_4n, e98_4r, e98_6, e98_7i, e98_7n, e98_7r, e98_11, e98_13, e98_16, e98_17, e98_20, e98_22, e98_23, e98_24, e98_25, e98_28, e98_29, e98_32i, e98_32n, e98_32r, e98_34, e98_35, e98_38, e98_39, e98_41, e98_44, e98_47, e98_48, e98_50, e98_53, e98_55, e98_57, e98_60, e98_62i, e98_62n, e98_62r, e98_63, e98_65i, e98_65n, e98_65r, e98_67i, e98_67n, e98_67r, e98_70, e98_73, e98_74, Bool.false_eq_true, Bool.true_eq_false, gfK, pfK, lnK, isC, alK_n, asK_n, List.getElem?_cons_zero, List.getElem?_cons_succ, List.set_cons_zero, List.set_cons_succ, List.length_cons, List.length_nil, ↓reduceIte, if_true, if_false, eq_self, and_true, true_and, and_self, Option.bind_some, Option.bind_none, Option.toList_some, Option.toList_none, List.cons_append, List.nil_append, mset_at, mset_ne, mset_2, mset_mset, Nat.reduceLT, Nat.reduceAdd, le_8, h8, G_0, G_57, hpd, R_priceOf hp hq, gp_abs, G_W0 hb, W_isLet hb hR hs hd', hl, bI_t, nz1, oI_n, oI_s, og_n, og_s, nI_succ', ih]
      | some m =>
        have hm := nearO_lt hn
        have hm9 := nI_m9 (n := m) (by omega)
        have p3 := hp20 m (by omega)
        have g1 := gp_le p1 p2
        have g3 := gp_le p3 p2
        by_cases hg : gp (pr m) (pr q) ≤ gp (pr d) (pr q)
        · rw [show nearO (letP lc lt (A b 6) s) (fun d => gp (pr d) (pr q)) (d + 1) = some m from by rw [nearO, hn]; exact if_neg (by omega), oI_s, og_s] at ih
          simp (disch := first | omega | assumption | exact Nat.le_of_ble_eq_true rfl) only [m98, e98_0, e98_2i, e98_2n, e98_2r, e98_3, e98_4i, e98_4n, e98_4r, e98_6, e98_7i, e98_7n, e98_7r, e98_11, e98_13, e98_16, e98_17, e98_20, e98_22, e98_23, e98_24, e98_25, e98_28, e98_29, e98_32i, e98_32n, e98_32r, e98_34, e98_35, e98_38, e98_39, e98_41, e98_44, e98_47, e98_48, e98_50, e98_53, e98_55, e98_57, e98_60, e98_62i, e98_62n, e98_62r, e98_63, e98_65i, e98_65n, e98_65r, e98_67i, e98_67n, e98_67r, e98_70, e98_73, e98_74, Bool.false_eq_true, Bool.true_eq_false, gfK, pfK, lnK, isC, alK_n, asK_n, List.getElem?_cons_zero, List.getElem?_cons_succ, List.set_cons_zero, List.set_cons_succ, List.length_cons, List.length_nil, ↓reduceIte, if_true, if_false, eq_self, and_true, true_and, and_self, Option.bind_some, Option.bind_none, Option.toList_some, Option.toList_none, List.cons_append, List.nil_append, mset_at, mset_ne, mset_2, mset_mset, Nat.reduceLT, Nat.reduceAdd, le_8, h8, G_0, G_57, hpd, R_priceOf hp hq, gp_abs, G_W0 hb, W_isLet hb hR hs hd', hl, bI_t, nz1, oI_n, oI_s, og_n, og_s, hm9, nI_leI, hg, nI_succ', ih]
        · rw [show nearO (letP lc lt (A b 6) s) (fun d => gp (pr d) (pr q)) (d + 1) = some d from by rw [nearO, hn]; exact if_pos ⟨hl, by omega⟩, oI_s, og_s] at ih
          simp (disch := first | omega | assumption | exact Nat.le_of_ble_eq_true rfl) only [m98, e98_0, e98_2i, e98_2n, e98_2r, e98_3, e98_4i, e98_4n, e98_4r, e98_6, e98_7i, e98_7n, e98_7r, e98_11, e98_13, e98_16, e98_17, e98_20, e98_22, e98_23, e98_24, e98_25, e98_28, e98_29, e98_32i, e98_32n, e98_32r, e98_34, e98_35, e98_38, e98_39, e98_41, e98_44, e98_47, e98_48, e98_50, e98_53, e98_55, e98_57, e98_60, e98_62i, e98_62n, e98_62r, e98_63, e98_65i, e98_65n, e98_65r, e98_67i, e98_67n, e98_67r, e98_70, e98_73, e98_74, Bool.false_eq_true, Bool.true_eq_false, gfK, pfK, lnK, isC, alK_n, asK_n, List.getElem?_cons_zero, List.getElem?_cons_succ, List.set_cons_zero, List.set_cons_succ, List.length_cons, List.length_nil, ↓reduceIte, if_true, if_false, eq_self, and_true, true_and, and_self, Option.bind_some, Option.bind_none, Option.toList_some, Option.toList_none, List.cons_append, List.nil_append, mset_at, mset_ne, mset_2, mset_mset, Nat.reduceLT, Nat.reduceAdd, le_8, h8, G_0, G_57, hpd, R_priceOf hp hq, gp_abs, G_W0 hb, W_isLet hb hR hs hd', hl, bI_t, nz1, oI_n, oI_s, og_n, og_s, hm9, nI_leI, hg, nI_succ', ih]
    · have hl' := Bool.eq_false_iff.2 hl
      have e : nearO (letP lc lt (A b 6) s) (fun d => gp (pr d) (pr q)) (d + 1) = nearO (letP lc lt (A b 6) s) (fun d => gp (pr d) (pr q)) d := by
        rw [nearO]
        cases hn : nearO (letP lc lt (A b 6) s) (fun d => gp (pr d) (pr q)) d with
        | none => exact if_neg hl
        | some m => exact if_neg (fun g => hl g.1)
      rw [e] at ih
      simp (disch := first | omega | assumption | exact Nat.le_of_ble_eq_true rfl) only [m98, e98_0, e98_2i, e98_2n, e98_2r, e98_3, e98_4i, e98_4n, e98_4r, e98_6, e98_7i, e98_7n, e98_7r, e98_11, e98_13, e98_16, e98_17, e98_20, e98_22, e98_23, e98_24, e98_25, e98_28, e98_29, e98_32i, e98_32n, e98_32r, e98_34, e98_35, e98_38, e98_39, e98_41, e98_44, e98_47, e98_48, e98_50, e98_53, e98_55, e98_57, e98_60, e98_62i, e98_62n, e98_62r, e98_63, e98_65i, e98_65n, e98_65r, e98_67i, e98_67n, e98_67r, e98_70, e98_73, e98_74, Bool.false_eq_true, Bool.true_eq_false, gfK, pfK, lnK, isC, alK_n, asK_n, List.getElem?_cons_zero, List.getElem?_cons_succ, List.set_cons_zero, List.set_cons_succ, List.length_cons, List.length_nil, ↓reduceIte, if_true, if_false, eq_self, and_true, true_and, and_self, Option.bind_some, Option.bind_none, Option.toList_some, Option.toList_none, List.cons_append, List.nil_append, mset_at, mset_ne, mset_2, mset_mset, Nat.reduceLT, Nat.reduceAdd, le_8, h8, G_0, G_57, hpd, R_priceOf hp hq, gp_abs, G_W0 hb, W_isLet hb hR hs hd', hl', bI_f, nI_succ', ih]
theorem R_near (hb : b = 8 ∨ b = 19) (hR : WR b A lc lt) (hp : ∀ d, d < 8 → A 57 d = nI (pr d)) (hp20 : ∀ d, d < 8 → pr d ≤ 20) (hs : s < 16) (hq : q < 8) : evM 98 [.ref 0, .int (nI s), .int (nI q)] (G b u v A τ) = some (some (.int (oI (nearO (letP lc lt (A b 6) s) (fun d => gp (pr d) (pr q)) 8))), (G b u v A τ)) := by
  have := near_loop (b := b) (u := u) (v := v) (τ := τ) hb hR hp hp20 hs hq 8 0 none rfl
  rw [show nearO (letP lc lt (A b 6) s) (fun d => gp (pr d) (pr q)) 0 = none from rfl, oI, og, ← lit_0] at this
  simp (disch := first | omega | assumption | exact Nat.le_of_ble_eq_true rfl) only [m98, e98_0, e98_2i, e98_2n, e98_2r, e98_3, e98_4i, e98_4n, e98_4r, e98_6, e98_7i, e98_7n, e98_7r, e98_11, e98_13, e98_16, e98_17, e98_20, e98_22, e98_23, e98_24, e98_25, e98_28, e98_29, e98_32i, e98_32n, e98_32r, e98_34, e98_35, e98_38, e98_39, e98_41, e98_44, e98_47, e98_48, e98_50, e98_53, e98_55, e98_57, e98_60, e98_62i, e98_62n, e98_62r, e98_63, e98_65i, e98_65n, e98_65r, e98_67i, e98_67n, e98_67r, e98_70, e98_73, e98_74, Bool.false_eq_true, Bool.true_eq_false, gfK, pfK, lnK, isC, alK_n, asK_n, List.getElem?_cons_zero, List.getElem?_cons_succ, List.set_cons_zero, List.set_cons_succ, List.length_cons, List.length_nil, ↓reduceIte, if_true, if_false, eq_self, and_true, true_and, and_self, Option.bind_some, Option.bind_none, Option.toList_some, Option.toList_none, List.cons_append, List.nil_append, mset_at, mset_ne, mset_2, mset_mset, Nat.reduceLT, Nat.reduceAdd, this]
theorem V_size {p q : Nat} (hp : p ≤ 20) (hq : q ≤ 20) : evM 172 [.int (nI p - nI q)] σ = some (some (.int (nI (gp p q))), σ) := by
  have h := gp_neg' p (by omega) q (by omega)
  by_cases h0 : (0 : Int32) ≤ nI p - nI q
  · rw [if_pos h0] at h
    simp (disch := first | omega | assumption | exact Nat.le_of_ble_eq_true rfl) only [m172, e172_0, e172_1, e172_4, e172_5, e172_6, e172_9, e172_10, Bool.false_eq_true, Bool.true_eq_false, gfK, pfK, lnK, isC, alK_n, asK_n, List.getElem?_cons_zero, List.getElem?_cons_succ, List.set_cons_zero, List.set_cons_succ, List.length_cons, List.length_nil, ↓reduceIte, if_true, if_false, eq_self, and_true, true_and, and_self, Option.bind_some, Option.bind_none, Option.toList_some, Option.toList_none, List.cons_append, List.nil_append, mset_at, mset_ne, mset_2, mset_mset, Nat.reduceLT, Nat.reduceAdd, h0]
    rw [h]
    rfl
  · rw [if_neg h0] at h
    simp (disch := first | omega | assumption | exact Nat.le_of_ble_eq_true rfl) only [m172, e172_0, e172_1, e172_4, e172_5, e172_6, e172_9, e172_10, Bool.false_eq_true, Bool.true_eq_false, gfK, pfK, lnK, isC, alK_n, asK_n, List.getElem?_cons_zero, List.getElem?_cons_succ, List.set_cons_zero, List.set_cons_succ, List.length_cons, List.length_nil, ↓reduceIte, if_true, if_false, eq_self, and_true, true_and, and_self, Option.bind_some, Option.bind_none, Option.toList_some, Option.toList_none, List.cons_append, List.nil_append, mset_at, mset_ne, mset_2, mset_mset, Nat.reduceLT, Nat.reduceAdd, h0]
    rw [h]
    rfl
theorem mnear_loop (hC : MW A lc lt) (hW : WF lc lt) (hp : ∀ d, d < 8 → A 67 d = nI (pr d)) (hp20 : ∀ d, d < 8 → pr d ≤ 20) (hs : s < 16) (hq : q < 8) : ∀ (n d : Nat) (l5 : Option Value), d + n = 8 → ∃ l5', ev 171 17 [some (.ref 60), some (.int (nI s)), some (.int (nI q)), some (.int (oI (nearO (letP lc lt (A 60 15) s) (fun d => gp (pr d) (pr q)) d))), some (.int (nI d)), l5, l6, l7, l8] [] (G b u v A τ) = ev 171 101 [some (.ref 60), some (.int (nI s)), some (.int (nI q)), some (.int (oI (nearO (letP lc lt (A 60 15) s) (fun d => gp (pr d) (pr q)) 8))), some (.int (nI 8)), l5', l6, l7, l8] [] (G b u v A τ)
  | 0, d, l5, hd => by
    have : d = 8 := by omega
    subst this
    refine ⟨l5, ?_⟩
    rw [e171_17]
    simp (disch := first | omega | assumption | exact Nat.le_of_ble_eq_true rfl) only [m171, e171_19, e171_21, Bool.false_eq_true, Bool.true_eq_false, gfK, pfK, lnK, isC, alK_n, asK_n, List.getElem?_cons_zero, List.getElem?_cons_succ, List.set_cons_zero, List.set_cons_succ, List.length_cons, List.length_nil, ↓reduceIte, if_true, if_false, eq_self, and_true, true_and, and_self, Option.bind_some, Option.bind_none, Option.toList_some, Option.toList_none, List.cons_append, List.nil_append, mset_at, mset_ne, mset_2, mset_mset, Nat.reduceLT, Nat.reduceAdd, le_8, Nat.le_refl]
  | n + 1, d, l5, hd => by
    have h8 : ¬ 8 ≤ d := by omega
    have hd' : d < 8 := by omega
    have p1 := hp20 d hd'
    have p2 := hp20 q hq
    have hpd := hp d hd'
    have hpq := hp q hq
    have key : ∀ c : Bool, (nearO (letP lc lt (A 60 15) s) (fun d => gp (pr d) (pr q)) (d + 1) = if c = true then some d else nearO (letP lc lt (A 60 15) s) (fun d => gp (pr d) (pr q)) d) → (ev 171 17 [some (.ref 60), some (.int (nI s)), some (.int (nI q)), some (.int (oI (nearO (letP lc lt (A 60 15) s) (fun d => gp (pr d) (pr q)) d))), some (.int (nI d)), l5, l6, l7, l8] [] (G b u v A τ) = ev 171 81 [some (.ref 60), some (.int (nI s)), some (.int (nI q)), some (.int (oI (nearO (letP lc lt (A 60 15) s) (fun d => gp (pr d) (pr q)) d))), some (.int (nI d)), l5, l6, l7, l8] [.int (bI c)] (G b u v A τ)) → ∃ l5', ev 171 17 [some (.ref 60), some (.int (nI s)), some (.int (nI q)), some (.int (oI (nearO (letP lc lt (A 60 15) s) (fun d => gp (pr d) (pr q)) d))), some (.int (nI d)), l5, l6, l7, l8] [] (G b u v A τ) = ev 171 101 [some (.ref 60), some (.int (nI s)), some (.int (nI q)), some (.int (oI (nearO (letP lc lt (A 60 15) s) (fun d => gp (pr d) (pr q)) 8))), some (.int (nI 8)), l5', l6, l7, l8] [] (G b u v A τ) := by
      intro c hc he
      obtain ⟨l5', ih⟩ := mnear_loop hC hW hp hp20 hs hq n (d + 1) (some (.int (bI c))) (by omega)
      refine ⟨l5', ?_⟩
      rw [hc] at ih
      rw [he]
      cases c
      · rw [if_neg Bool.false_ne_true, bI_f] at ih
        simp (disch := first | omega | assumption | exact Nat.le_of_ble_eq_true rfl) only [m171, e171_81i, e171_81n, e171_81r, e171_83, e171_85, e171_88, e171_90, e171_93, e171_94i, e171_94n, e171_94r, e171_95i, e171_95n, e171_95r, e171_98, Bool.false_eq_true, Bool.true_eq_false, gfK, pfK, lnK, isC, alK_n, asK_n, List.getElem?_cons_zero, List.getElem?_cons_succ, List.set_cons_zero, List.set_cons_succ, List.length_cons, List.length_nil, ↓reduceIte, if_true, if_false, eq_self, and_true, true_and, and_self, Option.bind_some, Option.bind_none, Option.toList_some, Option.toList_none, List.cons_append, List.nil_append, mset_at, mset_ne, mset_2, mset_mset, Nat.reduceLT, Nat.reduceAdd, bI_f, nI_succ', ih]
      · rw [if_pos rfl, bI_t, oI] at ih
        simp (disch := first | omega | assumption | exact Nat.le_of_ble_eq_true rfl) only [m171, e171_81i, e171_81n, e171_81r, e171_83, e171_85, e171_88, e171_90, e171_93, e171_94i, e171_94n, e171_94r, e171_95i, e171_95n, e171_95r, e171_98, Bool.false_eq_true, Bool.true_eq_false, gfK, pfK, lnK, isC, alK_n, asK_n, List.getElem?_cons_zero, List.getElem?_cons_succ, List.set_cons_zero, List.set_cons_succ, List.length_cons, List.length_nil, ↓reduceIte, if_true, if_false, eq_self, and_true, true_and, and_self, Option.bind_some, Option.bind_none, Option.toList_some, Option.toList_none, List.cons_append, List.nil_append, mset_at, mset_ne, mset_2, mset_mset, Nat.reduceLT, Nat.reduceAdd, bI_t, nz1, nI_succ', ih]
    by_cases hl : letP lc lt (A 60 15) s d = true
    · cases hn : nearO (letP lc lt (A 60 15) s) (fun d => gp (pr d) (pr q)) d with
      | none =>
        rw [hn] at key
        refine key true (by rw [nearO, hn]; exact if_pos hl) ?_
        rw [e171_17]
        simp (disch := first | omega | assumption | exact Nat.le_of_ble_eq_true rfl) only [m171, e171_19, e171_21, e171_24, e171_25, e171_26, e171_28, e171_31, e171_34, e171_35, e171_37, e171_40, e171_41, e171_44, e171_46, e171_47, e171_48, e171_51, e171_52, e171_53, e171_54, e171_57, e171_58, e171_61, e171_62, e171_63, e171_64, e171_67, e171_68, e171_69, e171_70, e171_73, e171_76, e171_77, e171_80, Bool.false_eq_true, Bool.true_eq_false, gfK, pfK, lnK, isC, alK_n, asK_n, List.getElem?_cons_zero, List.getElem?_cons_succ, List.set_cons_zero, List.set_cons_succ, List.length_cons, List.length_nil, ↓reduceIte, if_true, if_false, eq_self, and_true, true_and, and_self, Option.bind_some, Option.bind_none, Option.toList_some, Option.toList_none, List.cons_append, List.nil_append, mset_at, mset_ne, mset_2, mset_mset, Nat.reduceLT, Nat.reduceAdd, le_8, h8, V_isLet hC hW hs hd', hl, G_60, bI_t, nz1, oI_n, oI_s]
      | some m =>
        rw [hn] at key
        have hm := nearO_lt hn
        have hm9 := nI_m9 (n := m) (by omega)
        have hpm := hp m (by omega)
        have p3 := hp20 m (by omega)
        have g1 := gp_le p1 p2
        have g3 := gp_le p3 p2
        by_cases hg : gp (pr m) (pr q) ≤ gp (pr d) (pr q)
        · refine key false (by rw [nearO, hn]; exact if_neg (by omega)) ?_
          rw [e171_17]
          simp (disch := first | omega | assumption | exact Nat.le_of_ble_eq_true rfl) only [m171, e171_19, e171_21, e171_24, e171_25, e171_26, e171_28, e171_31, e171_34, e171_35, e171_37, e171_40, e171_41, e171_44, e171_46, e171_47, e171_48, e171_51, e171_52, e171_53, e171_54, e171_57, e171_58, e171_61, e171_62, e171_63, e171_64, e171_67, e171_68, e171_69, e171_70, e171_73, e171_76, e171_77, e171_80, Bool.false_eq_true, Bool.true_eq_false, gfK, pfK, lnK, isC, alK_n, asK_n, List.getElem?_cons_zero, List.getElem?_cons_succ, List.set_cons_zero, List.set_cons_succ, List.length_cons, List.length_nil, ↓reduceIte, if_true, if_false, eq_self, and_true, true_and, and_self, Option.bind_some, Option.bind_none, Option.toList_some, Option.toList_none, List.cons_append, List.nil_append, mset_at, mset_ne, mset_2, mset_mset, Nat.reduceLT, Nat.reduceAdd, le_8, h8, V_isLet hC hW hs hd', hl, G_60, G_67, hpd, hpq, hpm, V_size p1 p2, V_size p3 p2, nI_leI, hg, hm9, bI_t, bI_f, nz1, oI_n, oI_s]
        · refine key true (by rw [nearO, hn]; exact if_pos ⟨hl, by omega⟩) ?_
          rw [e171_17]
          simp (disch := first | omega | assumption | exact Nat.le_of_ble_eq_true rfl) only [m171, e171_19, e171_21, e171_24, e171_25, e171_26, e171_28, e171_31, e171_34, e171_35, e171_37, e171_40, e171_41, e171_44, e171_46, e171_47, e171_48, e171_51, e171_52, e171_53, e171_54, e171_57, e171_58, e171_61, e171_62, e171_63, e171_64, e171_67, e171_68, e171_69, e171_70, e171_73, e171_76, e171_77, e171_80, Bool.false_eq_true, Bool.true_eq_false, gfK, pfK, lnK, isC, alK_n, asK_n, List.getElem?_cons_zero, List.getElem?_cons_succ, List.set_cons_zero, List.set_cons_succ, List.length_cons, List.length_nil, ↓reduceIte, if_true, if_false, eq_self, and_true, true_and, and_self, Option.bind_some, Option.bind_none, Option.toList_some, Option.toList_none, List.cons_append, List.nil_append, mset_at, mset_ne, mset_2, mset_mset, Nat.reduceLT, Nat.reduceAdd, le_8, h8, V_isLet hC hW hs hd', hl, G_60, G_67, hpd, hpq, hpm, V_size p1 p2, V_size p3 p2, nI_leI, hg, hm9, bI_t, nz1, oI_n, oI_s]
    · have hl' := Bool.eq_false_iff.2 hl
      have e : nearO (letP lc lt (A 60 15) s) (fun d => gp (pr d) (pr q)) (d + 1) = nearO (letP lc lt (A 60 15) s) (fun d => gp (pr d) (pr q)) d := by
        rw [nearO]
        cases hn : nearO (letP lc lt (A 60 15) s) (fun d => gp (pr d) (pr q)) d with
        | none => exact if_neg hl
        | some m => exact if_neg (fun g => hl g.1)
      refine key false (by rw [e, if_neg Bool.false_ne_true]) ?_
      rw [e171_17]
      simp (disch := first | omega | assumption | exact Nat.le_of_ble_eq_true rfl) only [m171, e171_19, e171_21, e171_24, e171_25, e171_26, e171_28, e171_31, e171_34, e171_35, e171_37, e171_40, e171_41, e171_44, e171_46, e171_47, e171_48, e171_51, e171_52, e171_53, e171_54, e171_57, e171_58, e171_61, e171_62, e171_63, e171_64, e171_67, e171_68, e171_69, e171_70, e171_73, e171_76, e171_77, e171_80, Bool.false_eq_true, Bool.true_eq_false, gfK, pfK, lnK, isC, alK_n, asK_n, List.getElem?_cons_zero, List.getElem?_cons_succ, List.set_cons_zero, List.set_cons_succ, List.length_cons, List.length_nil, ↓reduceIte, if_true, if_false, eq_self, and_true, true_and, and_self, Option.bind_some, Option.bind_none, Option.toList_some, Option.toList_none, List.cons_append, List.nil_append, mset_at, mset_ne, mset_2, mset_mset, Nat.reduceLT, Nat.reduceAdd, le_8, h8, V_isLet hC hW hs hd', hl', G_60, bI_f]
end INSTEAD
