/-! THE CLASS'S TOKENS: words, and the whole text split. -/
theorem sub_eq {e p L : Nat} (he : e < 2147483648) (hp : p ≤ e) (hL : L < 2147483648) : (nI e - nI p = Int32.ofNat L) = (e = p + L) := by
  rw [pk_sub hp]
  exact propext ⟨fun q => by have := nI_inj (by omega) hL q; omega, fun q => by rw [show e - p = L by omega]; rfl⟩
theorem e52_13f (a0 a1 a2 : Option Value) (y : UInt32) (o : Option Value) (x : Int32) (ls : mL) (st : List Value) (σ : mS) : ev 52 13 (a0 :: a1 :: a2 :: some (.float y) :: o :: ls) (.int x :: st) σ = ev 52 15 (a0 :: a1 :: a2 :: some (.float y) :: some (.int x) :: ls) st σ := e_istore0 k52_13 (Nat.le_add_left 5 ls.length)
theorem e52_43f (a0 a1 a2 : Option Value) (y : UInt32) (x : Int32) (ls : mL) (st : List Value) (σ : mS) : ev 52 43 (a0 :: a1 :: a2 :: some (.float y) :: some (.int x) :: ls) st σ = ev 52 46 (a0 :: a1 :: a2 :: some (.float y) :: some (.int (x + 1)) :: ls) st σ := e_iinc 1 k52_43 (by decide) rfl
section XWORD
variable {b : Nat} {u v : Int64} {A A0 : Nat → Nat → Int32} {τ : Nat × Nat × Nat × (Nat → Int32)} {n : Nat} {t : Nat → Nat} {i j p e c : Nat} {x y : Int32} {σ : mS} {l2 l3 l4 l5 : Option Value}
theorem x_isWord_loop (hT : TX A n t) (z : UInt32) (hz : z.toNat < 4) (hp : p ≤ n) (hL : p + (sBy z.toNat).length ≤ n) : ∀ (f j : Nat), j + f = (sBy z.toNat).length → (∀ i, i < j → nI (t (p + i)) = (sBy z.toNat).getD i 0) → ev 52 15 [some (.ref 1), some (.int (nI p)), some (.int (nI e)), some (.float z), some (.int (nI j))] [] (G b u v A τ) = some (some (.int (bI (decide (∀ i, i < (sBy z.toNat).length → nI (t (p + i)) = (sBy z.toNat).getD i 0)))), (G b u v A τ))
  | 0, j, hj, hk => by
    have h6 := hT.1
    have : (sBy z.toNat).length = j := by omega
    rw [this] at hL ⊢
    have q1 : z.toNat < 4 ∧ mCat [.int (nI j)] ≤ 8 := ⟨hz, Nat.le_of_ble_eq_true rfl⟩
    have hc : Int32.ofNat (sBy z.toNat).length ≤ nI j := by
      rw [this]
      exact (nI_leI (a := j) (b := j) (by omega) (by omega)).2 (Nat.le_refl _)
    rw [decide_eq_true hk, bI_t, e52_15]
    simp (disch := first | omega | assumption | exact Nat.le_of_ble_eq_true rfl) only [m52, e52_0, e52_1, e52_2, e52_3, e52_3f, e52_4, e52_7, e52_10, e52_11b0, e52_11b1, e52_12, e52_13i, e52_13n, e52_13r, e52_17, e52_17f, e52_18, e52_21, e52_24, e52_24f, e52_25, e52_26, e52_28, e52_29, e52_32, e52_32f, e52_33, e52_35, e52_38, e52_41, e52_42b0, e52_42b1, e52_43i, e52_43n, e52_43r, e52_46, e52_49, e52_50b0, e52_50b1, Bool.false_eq_true, Bool.true_eq_false, gfK, pfK, lnK, isC, alK_n, asK_n, List.getElem?_cons_zero, List.getElem?_cons_succ, List.set_cons_zero, List.set_cons_succ, List.length_cons, List.length_nil, ↓reduceIte, if_true, if_false, eq_self, and_true, true_and, and_self, Option.bind_some, Option.bind_none, Option.toList_some, Option.toList_none, List.cons_append, List.nil_append, mset_at, mset_ne, mset_2, mset_mset, Nat.reduceLT, Nat.reduceAdd, e52_13f, e52_43f, hc]
  | f + 1, j, hj, hk => by
    have h6 := hT.1
    have q1 : z.toNat < 4 ∧ mCat [.int (nI j)] ≤ 8 := ⟨hz, Nat.le_of_ble_eq_true rfl⟩
    have hc : ¬ Int32.ofNat (sBy z.toNat).length ≤ nI j := fun q => by
      have := (nI_leI (a := (sBy z.toNat).length) (b := j) (by omega) (by omega)).1 q
      omega
    have q2 : z.toNat < 4 ∧ ¬ (nI j < 0 ∨ (sBy z.toNat).length ≤ (nI j).toNatClampNeg) ∧ mCat [.int (nI (t (p + j)))] ≤ 8 := ⟨hz, fun q => q.elim (nI_pos (by omega)) (fun q => by rw [nI_clamp (by omega)] at q; omega), Nat.le_of_ble_eq_true rfl⟩
    have hb := byA_lt (t := t) (n := n) (i := p + j) (by omega)
    rw [e52_15]
    by_cases g : nI (t (p + j)) = (sBy z.toNat).getD j 0
    · have ih := x_isWord_loop hT z hz hp hL f (j + 1) (by omega) (fun i hi => by
        by_cases e : i = j
        · rw [e]; exact g
        · exact hk i (by omega))
      simp (disch := first | omega | assumption | exact Nat.le_of_ble_eq_true rfl) only [m52, e52_0, e52_1, e52_2, e52_3, e52_3f, e52_4, e52_7, e52_10, e52_11b0, e52_11b1, e52_12, e52_13i, e52_13n, e52_13r, e52_17, e52_17f, e52_18, e52_21, e52_24, e52_24f, e52_25, e52_26, e52_28, e52_29, e52_32, e52_32f, e52_33, e52_35, e52_38, e52_41, e52_42b0, e52_42b1, e52_43i, e52_43n, e52_43r, e52_46, e52_49, e52_50b0, e52_50b1, Bool.false_eq_true, Bool.true_eq_false, gfK, pfK, lnK, isC, alK_n, asK_n, List.getElem?_cons_zero, List.getElem?_cons_succ, List.set_cons_zero, List.set_cons_succ, List.length_cons, List.length_nil, ↓reduceIte, if_true, if_false, eq_self, and_true, true_and, and_self, Option.bind_some, Option.bind_none, Option.toList_some, Option.toList_none, List.cons_append, List.nil_append, mset_at, mset_ne, mset_2, mset_mset, Nat.reduceLT, Nat.reduceAdd, e52_13f, e52_43f, hc, G_1, nI_addN, x_byteAt hT, hb, nI_clamp, eq_true g, nI_succ', ih]
    · rw [decide_eq_false (fun q => g (q j (by omega))), bI_f]
      simp (disch := first | omega | assumption | exact Nat.le_of_ble_eq_true rfl) only [m52, e52_0, e52_1, e52_2, e52_3, e52_3f, e52_4, e52_7, e52_10, e52_11b0, e52_11b1, e52_12, e52_13i, e52_13n, e52_13r, e52_17, e52_17f, e52_18, e52_21, e52_24, e52_24f, e52_25, e52_26, e52_28, e52_29, e52_32, e52_32f, e52_33, e52_35, e52_38, e52_41, e52_42b0, e52_42b1, e52_43i, e52_43n, e52_43r, e52_46, e52_49, e52_50b0, e52_50b1, Bool.false_eq_true, Bool.true_eq_false, gfK, pfK, lnK, isC, alK_n, asK_n, List.getElem?_cons_zero, List.getElem?_cons_succ, List.set_cons_zero, List.set_cons_succ, List.length_cons, List.length_nil, ↓reduceIte, if_true, if_false, eq_self, and_true, true_and, and_self, Option.bind_some, Option.bind_none, Option.toList_some, Option.toList_none, List.cons_append, List.nil_append, mset_at, mset_ne, mset_2, mset_mset, Nat.reduceLT, Nat.reduceAdd, e52_13f, e52_43f, hc, G_1, nI_addN, x_byteAt hT, hb, nI_clamp, g]
theorem x_isWord (hT : TX A n t) (z : UInt32) (hz : z.toNat < 4) (hp : p ≤ e) (he : e ≤ n) {W : Prop} [Decidable W] (hW : (e = p + (sBy z.toNat).length ∧ ∀ i, i < (sBy z.toNat).length → nI (t (p + i)) = (sBy z.toNat).getD i 0) ↔ W) : evM 52 [.ref 1, .int (nI p), .int (nI e), .float z] (G b u v A τ) = some (some (.int (bI (decide W))), (G b u v A τ)) := by
  have h6 := hT.1
  have q1 : z.toNat < 4 ∧ mCat [.int (nI e - nI p)] ≤ 8 := ⟨hz, Nat.le_of_ble_eq_true rfl⟩
  have hl5 : (sBy z.toNat).length < 2147483648 := by
    rcases (show z.toNat = 0 ∨ z.toNat = 1 ∨ z.toNat = 2 ∨ z.toNat = 3 by omega) with q | q | q | q <;> rw [q] <;> decide
  by_cases h : e = p + (sBy z.toNat).length
  · have hl := x_isWord_loop (b := b) (u := u) (v := v) (τ := τ) (p := p) (e := e) hT z hz (by omega) (by omega) (sBy z.toNat).length 0 (by omega) (fun i hi => by omega)
    rw [show decide W = decide (∀ i, i < (sBy z.toNat).length → nI (t (p + i)) = (sBy z.toNat).getD i 0) from decide_eq_decide.2 ⟨fun w => (hW.2 w).2, fun w => hW.1 ⟨h, w⟩⟩]
    have hl2 : ev 52 15 [some (.ref 1), some (.int (nI p)), some (.int (nI e)), some (.float z), some (.int 0)] [] (G b u v A τ) = _ := hl
    have hc : nI e - nI p = Int32.ofNat (sBy z.toNat).length := by
      rw [sub_eq (by omega) hp hl5]
      exact h
    simp (disch := first | omega | assumption | exact Nat.le_of_ble_eq_true rfl) only [m52, e52_0, e52_1, e52_2, e52_3, e52_3f, e52_4, e52_7, e52_10, e52_11b0, e52_11b1, e52_12, e52_13i, e52_13n, e52_13r, e52_17, e52_17f, e52_18, e52_21, e52_24, e52_24f, e52_25, e52_26, e52_28, e52_29, e52_32, e52_32f, e52_33, e52_35, e52_38, e52_41, e52_42b0, e52_42b1, e52_43i, e52_43n, e52_43r, e52_46, e52_49, e52_50b0, e52_50b1, Bool.false_eq_true, Bool.true_eq_false, gfK, pfK, lnK, isC, alK_n, asK_n, List.getElem?_cons_zero, List.getElem?_cons_succ, List.set_cons_zero, List.set_cons_succ, List.length_cons, List.length_nil, ↓reduceIte, if_true, if_false, eq_self, and_true, true_and, and_self, Option.bind_some, Option.bind_none, Option.toList_some, Option.toList_none, List.cons_append, List.nil_append, mset_at, mset_ne, mset_2, mset_mset, Nat.reduceLT, Nat.reduceAdd, e52_13f, e52_43f, eq_true hc, hl2]
  · rw [decide_eq_false (fun w => h (hW.2 w).1), bI_f]
    have hc : ¬ nI e - nI p = Int32.ofNat (sBy z.toNat).length := by
      rw [sub_eq (by omega) hp hl5]
      exact h
    simp (disch := first | omega | assumption | exact Nat.le_of_ble_eq_true rfl) only [m52, e52_0, e52_1, e52_2, e52_3, e52_3f, e52_4, e52_7, e52_10, e52_11b0, e52_11b1, e52_12, e52_13i, e52_13n, e52_13r, e52_17, e52_17f, e52_18, e52_21, e52_24, e52_24f, e52_25, e52_26, e52_28, e52_29, e52_32, e52_32f, e52_33, e52_35, e52_38, e52_41, e52_42b0, e52_42b1, e52_43i, e52_43n, e52_43r, e52_46, e52_49, e52_50b0, e52_50b1, Bool.false_eq_true, Bool.true_eq_false, gfK, pfK, lnK, isC, alK_n, asK_n, List.getElem?_cons_zero, List.getElem?_cons_succ, List.set_cons_zero, List.set_cons_succ, List.length_cons, List.length_nil, ↓reduceIte, if_true, if_false, eq_self, and_true, true_and, and_self, Option.bind_some, Option.bind_none, Option.toList_some, Option.toList_none, List.cons_append, List.nil_append, mset_at, mset_ne, mset_2, mset_mset, Nat.reduceLT, Nat.reduceAdd, e52_13f, e52_43f, hc]
theorem wd_0 (ht : ∀ i, t i < 256) : (e = p + (sBy (0 : UInt32).toNat).length ∧ ∀ i, i < (sBy (0 : UInt32).toNat).length → nI (t (p + i)) = (sBy (0 : UInt32).toNat).getD i 0) ↔ isNever t p e := by
  have q := fun i => ht (p + i)
  have q0 : t p < 256 := q 0; have q1 := q 1; have q2 := q 2; have q3 := q 3; have q4 := q 4
  constructor
  · rintro ⟨h, g⟩
    have g0 : nI (t (p + 0)) = nI 110 := g 0 (by decide); have g1 : nI (t (p + 1)) = nI 101 := g 1 (by decide); have g2 : nI (t (p + 2)) = nI 118 := g 2 (by decide); have g3 : nI (t (p + 3)) = nI 101 := g 3 (by decide); have g4 : nI (t (p + 4)) = nI 114 := g 4 (by decide)
    exact ⟨h, nI_inj (by omega) (by decide) g0, nI_inj (by omega) (by decide) g1, nI_inj (by omega) (by decide) g2, nI_inj (by omega) (by decide) g3, nI_inj (by omega) (by decide) g4⟩
  · rintro ⟨h, g0, g1, g2, g3, g4⟩
    refine ⟨h, fun i hi => ?_⟩
    have hi : i < 5 := hi
    rcases (show i = 0 ∨ i = 1 ∨ i = 2 ∨ i = 3 ∨ i = 4 by omega) with rfl | rfl | rfl | rfl | rfl
    · rw [Nat.add_zero, g0]; rfl
    · rw [g1]; rfl
    · rw [g2]; rfl
    · rw [g3]; rfl
    · rw [g4]; rfl
theorem wd_1 (ht : ∀ i, t i < 256) : (e = p + (sBy (1 : UInt32).toNat).length ∧ ∀ i, i < (sBy (1 : UInt32).toNat).length → nI (t (p + i)) = (sBy (1 : UInt32).toNat).getD i 0) ↔ isGoal t p e := by
  have q := fun i => ht (p + i)
  have q0 : t p < 256 := q 0; have q1 := q 1; have q2 := q 2; have q3 := q 3
  constructor
  · rintro ⟨h, g⟩
    have g0 : nI (t (p + 0)) = nI 103 := g 0 (by decide); have g1 : nI (t (p + 1)) = nI 111 := g 1 (by decide); have g2 : nI (t (p + 2)) = nI 97 := g 2 (by decide); have g3 : nI (t (p + 3)) = nI 108 := g 3 (by decide)
    exact ⟨h, nI_inj (by omega) (by decide) g0, nI_inj (by omega) (by decide) g1, nI_inj (by omega) (by decide) g2, nI_inj (by omega) (by decide) g3⟩
  · rintro ⟨h, g0, g1, g2, g3⟩
    refine ⟨h, fun i hi => ?_⟩
    have hi : i < 4 := hi
    rcases (show i = 0 ∨ i = 1 ∨ i = 2 ∨ i = 3 by omega) with rfl | rfl | rfl | rfl
    · rw [Nat.add_zero, g0]; rfl
    · rw [g1]; rfl
    · rw [g2]; rfl
    · rw [g3]; rfl
theorem wd_2 (ht : ∀ i, t i < 256) : (e = p + (sBy (2 : UInt32).toNat).length ∧ ∀ i, i < (sBy (2 : UInt32).toNat).length → nI (t (p + i)) = (sBy (2 : UInt32).toNat).getD i 0) ↔ isRest t p e := by
  have q := fun i => ht (p + i)
  have q0 : t p < 256 := q 0; have q1 := q 1; have q2 := q 2; have q3 := q 3
  constructor
  · rintro ⟨h, g⟩
    have g0 : nI (t (p + 0)) = nI 114 := g 0 (by decide); have g1 : nI (t (p + 1)) = nI 101 := g 1 (by decide); have g2 : nI (t (p + 2)) = nI 115 := g 2 (by decide); have g3 : nI (t (p + 3)) = nI 116 := g 3 (by decide)
    exact ⟨h, nI_inj (by omega) (by decide) g0, nI_inj (by omega) (by decide) g1, nI_inj (by omega) (by decide) g2, nI_inj (by omega) (by decide) g3⟩
  · rintro ⟨h, g0, g1, g2, g3⟩
    refine ⟨h, fun i hi => ?_⟩
    have hi : i < 4 := hi
    rcases (show i = 0 ∨ i = 1 ∨ i = 2 ∨ i = 3 by omega) with rfl | rfl | rfl | rfl
    · rw [Nat.add_zero, g0]; rfl
    · rw [g1]; rfl
    · rw [g2]; rfl
    · rw [g3]; rfl
theorem wd_3 (ht : ∀ i, t i < 256) : (e = p + (sBy (3 : UInt32).toNat).length ∧ ∀ i, i < (sBy (3 : UInt32).toNat).length → nI (t (p + i)) = (sBy (3 : UInt32).toNat).getD i 0) ↔ isBar t p e := by
  have q := fun i => ht (p + i)
  have q0 : t p < 256 := q 0; have q1 := q 1; have q2 := q 2
  constructor
  · rintro ⟨h, g⟩
    have g0 : nI (t (p + 0)) = nI 98 := g 0 (by decide); have g1 : nI (t (p + 1)) = nI 97 := g 1 (by decide); have g2 : nI (t (p + 2)) = nI 114 := g 2 (by decide)
    exact ⟨h, nI_inj (by omega) (by decide) g0, nI_inj (by omega) (by decide) g1, nI_inj (by omega) (by decide) g2⟩
  · rintro ⟨h, g0, g1, g2⟩
    refine ⟨h, fun i hi => ?_⟩
    have hi : i < 3 := hi
    rcases (show i = 0 ∨ i = 1 ∨ i = 2 by omega) with rfl | rfl | rfl
    · rw [Nat.add_zero, g0]; rfl
    · rw [g1]; rfl
    · rw [g2]; rfl
def wT (t : Nat → Nat) (p e : Nat) : Nat := if isNever t p e then 3 else if isGoal t p e then 4 else if isRest t p e then 5 else if isBar t p e then 6 else 9
theorem x_addWord_35 (hT : TX A n t) (hp : p < e) (he : e ≤ n) (hc : A 4 0 = nI c) (hle : c ≤ 600) : ev 51 35 [some (.ref 4), some (.ref 1), some (.int (nI p)), some (.int (nI e)), some (.int x)] [] (G b u v A τ) = some (none, G b u v (TKA A c (nI (wT t p e)) 0 (nI p)) τ) := by
  have ht := hT.2.2.2.1
  have w0 := x_isWord (b := b) (u := u) (v := v) (τ := τ) hT 0 (by decide) (Nat.le_of_lt hp) he (wd_0 (p := p) (e := e) ht)
  have w1 := x_isWord (b := b) (u := u) (v := v) (τ := τ) hT 1 (by decide) (Nat.le_of_lt hp) he (wd_1 (p := p) (e := e) ht)
  have w2 := x_isWord (b := b) (u := u) (v := v) (τ := τ) hT 2 (by decide) (Nat.le_of_lt hp) he (wd_2 (p := p) (e := e) ht)
  have w3 := x_isWord (b := b) (u := u) (v := v) (τ := τ) hT 3 (by decide) (Nat.le_of_lt hp) he (wd_3 (p := p) (e := e) ht)
  unfold wT
  by_cases h0 : isNever t p e
  · rw [if_pos h0]
    rw [decide_eq_true h0, bI_t] at w0
    simp (disch := first | omega | assumption | exact Nat.le_of_ble_eq_true rfl) only [m51, e51_0, e51_1, e51_2, e51_5i, e51_5n, e51_5r, e51_7, e51_8, e51_9, e51_10, e51_11, e51_14, e51_16, e51_18, e51_21, e51_22, e51_23, e51_25, e51_27, e51_28, e51_29, e51_32, e51_35, e51_36, e51_37, e51_38, e51_40, e51_43, e51_46, e51_47, e51_48, e51_49, e51_50, e51_53, e51_56, e51_57, e51_58, e51_59, e51_61, e51_64, e51_67, e51_68, e51_69, e51_70, e51_71, e51_74, e51_77, e51_78, e51_79, e51_80, e51_82, e51_85, e51_88, e51_89, e51_90, e51_91, e51_92, e51_95, e51_98, e51_99, e51_100, e51_101, e51_102, e51_104, e51_107, e51_110, e51_112, e51_115, e51_117, e51_118, e51_119, e51_122, Bool.false_eq_true, Bool.true_eq_false, gfK, pfK, lnK, isC, alK_n, asK_n, List.getElem?_cons_zero, List.getElem?_cons_succ, List.set_cons_zero, List.set_cons_succ, List.length_cons, List.length_nil, ↓reduceIte, if_true, if_false, eq_self, and_true, true_and, and_self, Option.bind_some, Option.bind_none, Option.toList_some, Option.toList_none, List.cons_append, List.nil_append, mset_at, mset_ne, mset_2, mset_mset, Nat.reduceLT, Nat.reduceAdd, w0, G_1, G_4, nz1, x_addToken hc hle]
    rfl
  · rw [if_neg h0]
    rw [decide_eq_false h0, bI_f] at w0
    by_cases h1 : isGoal t p e
    · rw [if_pos h1]
      rw [decide_eq_true h1, bI_t] at w1
      simp (disch := first | omega | assumption | exact Nat.le_of_ble_eq_true rfl) only [m51, e51_0, e51_1, e51_2, e51_5i, e51_5n, e51_5r, e51_7, e51_8, e51_9, e51_10, e51_11, e51_14, e51_16, e51_18, e51_21, e51_22, e51_23, e51_25, e51_27, e51_28, e51_29, e51_32, e51_35, e51_36, e51_37, e51_38, e51_40, e51_43, e51_46, e51_47, e51_48, e51_49, e51_50, e51_53, e51_56, e51_57, e51_58, e51_59, e51_61, e51_64, e51_67, e51_68, e51_69, e51_70, e51_71, e51_74, e51_77, e51_78, e51_79, e51_80, e51_82, e51_85, e51_88, e51_89, e51_90, e51_91, e51_92, e51_95, e51_98, e51_99, e51_100, e51_101, e51_102, e51_104, e51_107, e51_110, e51_112, e51_115, e51_117, e51_118, e51_119, e51_122, Bool.false_eq_true, Bool.true_eq_false, gfK, pfK, lnK, isC, alK_n, asK_n, List.getElem?_cons_zero, List.getElem?_cons_succ, List.set_cons_zero, List.set_cons_succ, List.length_cons, List.length_nil, ↓reduceIte, if_true, if_false, eq_self, and_true, true_and, and_self, Option.bind_some, Option.bind_none, Option.toList_some, Option.toList_none, List.cons_append, List.nil_append, mset_at, mset_ne, mset_2, mset_mset, Nat.reduceLT, Nat.reduceAdd, w0, w1, G_1, G_4, nz1, x_addToken hc hle]
      rfl
    · rw [if_neg h1]
      rw [decide_eq_false h1, bI_f] at w1
      by_cases h2 : isRest t p e
      · rw [if_pos h2]
        rw [decide_eq_true h2, bI_t] at w2
        simp (disch := first | omega | assumption | exact Nat.le_of_ble_eq_true rfl) only [m51, e51_0, e51_1, e51_2, e51_5i, e51_5n, e51_5r, e51_7, e51_8, e51_9, e51_10, e51_11, e51_14, e51_16, e51_18, e51_21, e51_22, e51_23, e51_25, e51_27, e51_28, e51_29, e51_32, e51_35, e51_36, e51_37, e51_38, e51_40, e51_43, e51_46, e51_47, e51_48, e51_49, e51_50, e51_53, e51_56, e51_57, e51_58, e51_59, e51_61, e51_64, e51_67, e51_68, e51_69, e51_70, e51_71, e51_74, e51_77, e51_78, e51_79, e51_80, e51_82, e51_85, e51_88, e51_89, e51_90, e51_91, e51_92, e51_95, e51_98, e51_99, e51_100, e51_101, e51_102, e51_104, e51_107, e51_110, e51_112, e51_115, e51_117, e51_118, e51_119, e51_122, Bool.false_eq_true, Bool.true_eq_false, gfK, pfK, lnK, isC, alK_n, asK_n, List.getElem?_cons_zero, List.getElem?_cons_succ, List.set_cons_zero, List.set_cons_succ, List.length_cons, List.length_nil, ↓reduceIte, if_true, if_false, eq_self, and_true, true_and, and_self, Option.bind_some, Option.bind_none, Option.toList_some, Option.toList_none, List.cons_append, List.nil_append, mset_at, mset_ne, mset_2, mset_mset, Nat.reduceLT, Nat.reduceAdd, w0, w1, w2, G_1, G_4, nz1, x_addToken hc hle]
        rfl
      · rw [if_neg h2]
        rw [decide_eq_false h2, bI_f] at w2
        by_cases h3 : isBar t p e
        · rw [if_pos h3]
          rw [decide_eq_true h3, bI_t] at w3
          simp (disch := first | omega | assumption | exact Nat.le_of_ble_eq_true rfl) only [m51, e51_0, e51_1, e51_2, e51_5i, e51_5n, e51_5r, e51_7, e51_8, e51_9, e51_10, e51_11, e51_14, e51_16, e51_18, e51_21, e51_22, e51_23, e51_25, e51_27, e51_28, e51_29, e51_32, e51_35, e51_36, e51_37, e51_38, e51_40, e51_43, e51_46, e51_47, e51_48, e51_49, e51_50, e51_53, e51_56, e51_57, e51_58, e51_59, e51_61, e51_64, e51_67, e51_68, e51_69, e51_70, e51_71, e51_74, e51_77, e51_78, e51_79, e51_80, e51_82, e51_85, e51_88, e51_89, e51_90, e51_91, e51_92, e51_95, e51_98, e51_99, e51_100, e51_101, e51_102, e51_104, e51_107, e51_110, e51_112, e51_115, e51_117, e51_118, e51_119, e51_122, Bool.false_eq_true, Bool.true_eq_false, gfK, pfK, lnK, isC, alK_n, asK_n, List.getElem?_cons_zero, List.getElem?_cons_succ, List.set_cons_zero, List.set_cons_succ, List.length_cons, List.length_nil, ↓reduceIte, if_true, if_false, eq_self, and_true, true_and, and_self, Option.bind_some, Option.bind_none, Option.toList_some, Option.toList_none, List.cons_append, List.nil_append, mset_at, mset_ne, mset_2, mset_mset, Nat.reduceLT, Nat.reduceAdd, w0, w1, w2, w3, G_1, G_4, nz1, x_addToken hc hle]
          rfl
        · rw [if_neg h3]
          rw [decide_eq_false h3, bI_f] at w3
          simp (disch := first | omega | assumption | exact Nat.le_of_ble_eq_true rfl) only [m51, e51_0, e51_1, e51_2, e51_5i, e51_5n, e51_5r, e51_7, e51_8, e51_9, e51_10, e51_11, e51_14, e51_16, e51_18, e51_21, e51_22, e51_23, e51_25, e51_27, e51_28, e51_29, e51_32, e51_35, e51_36, e51_37, e51_38, e51_40, e51_43, e51_46, e51_47, e51_48, e51_49, e51_50, e51_53, e51_56, e51_57, e51_58, e51_59, e51_61, e51_64, e51_67, e51_68, e51_69, e51_70, e51_71, e51_74, e51_77, e51_78, e51_79, e51_80, e51_82, e51_85, e51_88, e51_89, e51_90, e51_91, e51_92, e51_95, e51_98, e51_99, e51_100, e51_101, e51_102, e51_104, e51_107, e51_110, e51_112, e51_115, e51_117, e51_118, e51_119, e51_122, Bool.false_eq_true, Bool.true_eq_false, gfK, pfK, lnK, isC, alK_n, asK_n, List.getElem?_cons_zero, List.getElem?_cons_succ, List.set_cons_zero, List.set_cons_succ, List.length_cons, List.length_nil, ↓reduceIte, if_true, if_false, eq_self, and_true, true_and, and_self, Option.bind_some, Option.bind_none, Option.toList_some, Option.toList_none, List.cons_append, List.nil_append, mset_at, mset_ne, mset_2, mset_mset, Nat.reduceLT, Nat.reduceAdd, w0, w1, w2, w3, G_1, G_4, nz1, x_addToken hc hle]
          rfl
theorem x_addWord (hT : TX A n t) (hp : p < e) (he : e ≤ n) (hl : 97 ≤ t p) (hc : A 4 0 = nI c) (hle : c ≤ 600) : evM 51 [.ref 4, .ref 1, .int (nI p), .int (nI e)] (G b u v A τ) = some (none, G b u v (TKA A c (nI (wS t p e)) (nI (if e = p + 1 ∧ t p ≤ 104 then t p - 97 else 0)) (nI p)) τ) := by
  have h6 := hT.1
  have ht := hT.2.2.2.1 p
  have h35 := fun x => x_addWord_35 (b := b) (u := u) (v := v) (τ := τ) (x := x) hT hp he hc hle
  have hb := byA_lt (t := t) (n := n) (i := p) (by omega)
  have hs : nI (t p) - 97 = nI (t p - 97) := pk_sub (b := 97) hl
  by_cases h : e = p + 1 ∧ t p ≤ 104
  · unfold wS
    rw [if_pos h, if_pos h, h.1]
    simp (disch := first | omega | assumption | exact Nat.le_of_ble_eq_true rfl) only [m51, e51_0, e51_1, e51_2, e51_5i, e51_5n, e51_5r, e51_7, e51_8, e51_9, e51_10, e51_11, e51_14, e51_16, e51_18, e51_21, e51_22, e51_23, e51_25, e51_27, e51_28, e51_29, e51_32, e51_35, e51_36, e51_37, e51_38, e51_40, e51_43, e51_46, e51_47, e51_48, e51_49, e51_50, e51_53, e51_56, e51_57, e51_58, e51_59, e51_61, e51_64, e51_67, e51_68, e51_69, e51_70, e51_71, e51_74, e51_77, e51_78, e51_79, e51_80, e51_82, e51_85, e51_88, e51_89, e51_90, e51_91, e51_92, e51_95, e51_98, e51_99, e51_100, e51_101, e51_102, e51_104, e51_107, e51_110, e51_112, e51_115, e51_117, e51_118, e51_119, e51_122, Bool.false_eq_true, Bool.true_eq_false, gfK, pfK, lnK, isC, alK_n, asK_n, List.getElem?_cons_zero, List.getElem?_cons_succ, List.set_cons_zero, List.set_cons_succ, List.length_cons, List.length_nil, ↓reduceIte, if_true, if_false, eq_self, and_true, true_and, and_self, Option.bind_some, Option.bind_none, Option.toList_some, Option.toList_none, List.cons_append, List.nil_append, mset_at, mset_ne, mset_2, mset_mset, Nat.reduceLT, Nat.reduceAdd, x_byteAt hT, G_1, G_4, hb, nI_succ', gt_104, show ¬ 104 < t p from by omega, hs, x_addToken hc hle]
    rfl
  · rw [show wS t p e = wT t p e from if_neg h, if_neg h]
    by_cases h1 : e = p + 1
    · simp (disch := first | omega | assumption | exact Nat.le_of_ble_eq_true rfl) only [m51, e51_0, e51_1, e51_2, e51_5i, e51_5n, e51_5r, e51_7, e51_8, e51_9, e51_10, e51_11, e51_14, e51_16, e51_18, e51_21, e51_22, e51_23, e51_25, e51_27, e51_28, e51_29, e51_32, e51_35, e51_36, e51_37, e51_38, e51_40, e51_43, e51_46, e51_47, e51_48, e51_49, e51_50, e51_53, e51_56, e51_57, e51_58, e51_59, e51_61, e51_64, e51_67, e51_68, e51_69, e51_70, e51_71, e51_74, e51_77, e51_78, e51_79, e51_80, e51_82, e51_85, e51_88, e51_89, e51_90, e51_91, e51_92, e51_95, e51_98, e51_99, e51_100, e51_101, e51_102, e51_104, e51_107, e51_110, e51_112, e51_115, e51_117, e51_118, e51_119, e51_122, Bool.false_eq_true, Bool.true_eq_false, gfK, pfK, lnK, isC, alK_n, asK_n, List.getElem?_cons_zero, List.getElem?_cons_succ, List.set_cons_zero, List.set_cons_succ, List.length_cons, List.length_nil, ↓reduceIte, if_true, if_false, eq_self, and_true, true_and, and_self, Option.bind_some, Option.bind_none, Option.toList_some, Option.toList_none, List.cons_append, List.nil_append, mset_at, mset_ne, mset_2, mset_mset, Nat.reduceLT, Nat.reduceAdd, x_byteAt hT, G_1, G_4, hb, nI_succ', eq_nI, eq_true h1, gt_104, show 104 < t p from by omega, h35]
      rfl
    · simp (disch := first | omega | assumption | exact Nat.le_of_ble_eq_true rfl) only [m51, e51_0, e51_1, e51_2, e51_5i, e51_5n, e51_5r, e51_7, e51_8, e51_9, e51_10, e51_11, e51_14, e51_16, e51_18, e51_21, e51_22, e51_23, e51_25, e51_27, e51_28, e51_29, e51_32, e51_35, e51_36, e51_37, e51_38, e51_40, e51_43, e51_46, e51_47, e51_48, e51_49, e51_50, e51_53, e51_56, e51_57, e51_58, e51_59, e51_61, e51_64, e51_67, e51_68, e51_69, e51_70, e51_71, e51_74, e51_77, e51_78, e51_79, e51_80, e51_82, e51_85, e51_88, e51_89, e51_90, e51_91, e51_92, e51_95, e51_98, e51_99, e51_100, e51_101, e51_102, e51_104, e51_107, e51_110, e51_112, e51_115, e51_117, e51_118, e51_119, e51_122, Bool.false_eq_true, Bool.true_eq_false, gfK, pfK, lnK, isC, alK_n, asK_n, List.getElem?_cons_zero, List.getElem?_cons_succ, List.set_cons_zero, List.set_cons_succ, List.length_cons, List.length_nil, ↓reduceIte, if_true, if_false, eq_self, and_true, true_and, and_self, Option.bind_some, Option.bind_none, Option.toList_some, Option.toList_none, List.cons_append, List.nil_append, mset_at, mset_ne, mset_2, mset_mset, Nat.reduceLT, Nat.reduceAdd, x_byteAt hT, G_1, G_4, hb, nI_succ', eq_nI, h1, h35]
      rfl
/-- what the class keeps for a token's number -/
def cV (t : Nat → Nat) (n p : Nat) : Nat := if dg t n p = true then cvl t p (ed t n p - p) else if lr t n p = true ∧ ed t n p = p + 1 ∧ t p ≤ 104 then t p - 97 else 0
theorem ed_dg {t : Nat → Nat} {n p j : Nat} (h : dg t n p = true) (h1 : p ≤ j) (h2 : j < ed t n p) : 48 ≤ t j ∧ t j ≤ 57 := by
  unfold ed at h2
  rw [if_pos (dg_t.1 h).1, if_pos h] at h2
  have := dg_t.1 (rn_in h1 h2)
  omega
theorem ed_lr {t : Nat → Nat} {n p j : Nat} (h : lr t n p = true) (h1 : p ≤ j) (h2 : j < ed t n p) : 97 ≤ t j ∧ t j ≤ 122 := by
  unfold ed at h2
  have hd : ¬ dg t n p = true := fun q => by rw [dg_lr q] at h; exact Bool.false_ne_true h
  rw [if_pos (lr_t.1 h).1, if_neg hd, if_pos h] at h2
  have := lr_t.1 (rn_in h1 h2)
  omega
theorem cV_tV {t : Nat → Nat} {n p : Nat} (h : tS t n p = 1 ∨ tS t n p = 2) : cV t n p = tV t n p := by
  unfold cV tV
  unfold tS at h
  by_cases hp : p < n
  · rw [if_pos hp] at h
    by_cases hd : dg t n p = true
    · have he := ed_gt (t := t) hp
      rw [if_pos hd] at h ⊢
      rw [if_pos hd]
      by_cases hw : (t p = 48 ∧ p + 1 < ed t n p) ∨ 15 < mvl t p (ed t n p - p)
      · rw [if_pos hw] at h
        omega
      · have := vl_eq (t := t) (p := p) (k := ed t n p - p) (by omega) (fun j hj => ed_dg hd (by omega) (by omega)) (by omega)
        exact this.2 (by omega)
    · rw [if_neg hd] at h ⊢
      rw [if_neg hd]
      by_cases hl : lr t n p = true
      · rw [if_pos hl] at h
        unfold wS at h
        by_cases hw : ed t n p = p + 1 ∧ t p ≤ 104
        · rw [if_pos ⟨hl, hw⟩]
        · rw [if_neg hw] at h
          repeat' split at h
          all_goals omega
      · rw [if_neg hl] at h
        repeat' split at h
        all_goals omega
  · rw [if_neg hp] at h
    omega
end XWORD
