/-! CALLS on book and s: withdraw. -/
theorem ch_uniq {g : Nat → Int32} {r : Nat} (hr : r < 2147483648) : ∀ (L L' : List Nat) (x : Int32), IsCh g r x L → IsCh g r x L' → L = L'
  | [], [], x, h, h' => rfl
  | [], j :: L', x, h, ⟨h1, h2, _⟩ => by
    have hx : x = -9 := h
    exact absurd (h1.symm.trans hx) (fun e => (nI_ne9 (n := j) (by omega)).mp e)
  | j :: L, [], x, ⟨h1, h2, _⟩, h => by
    have hx : x = -9 := h
    exact absurd (h1.symm.trans hx) (fun e => (nI_ne9 (n := j) (by omega)).mp e)
  | j :: L, i :: L', x, ⟨h1, h2, h3⟩, ⟨g1, g2, g3⟩ => by
    have e : j = i := nI_inj (by omega) (by omega) (h1.symm.trans g1)
    subst e
    rw [ch_uniq hr L L' _ h3 g3]
/-- the leaves that D marks below i are withdrawn in s -/
def tbm (D : Nat → Bool) (i : Nat) (s : Nat → Int32) : Nat → Int32 := fun x => if 45 ≤ x ∧ (x - 45) % 8 = 6 ∧ (x - 45) / 8 < i ∧ D ((x - 45) / 8) = true then 1 else s x
theorem tbm_yes {D : Nat → Bool} {i : Nat} {s : Nat → Int32} (h : D i = true) : tbm D (i + 1) s = upd (tbm D i s) (45 + 8 * i + 6) 1 := by
  funext x
  unfold upd tbm
  by_cases hx : x = 45 + 8 * i + 6
  · rw [if_pos hx, if_pos ⟨by omega, by omega, by omega, by rw [show (x - 45) / 8 = i by omega]; exact h⟩]
  · rw [if_neg hx]
    by_cases h1 : 45 ≤ x ∧ (x - 45) % 8 = 6 ∧ (x - 45) / 8 < i ∧ D ((x - 45) / 8) = true
    · rw [if_pos h1, if_pos ⟨h1.1, h1.2.1, by omega, h1.2.2.2⟩]
    · rw [if_neg h1, if_neg (fun h2 => h1 ⟨h2.1, h2.2.1, by have := h2.1; have := h2.2.1; have := h2.2.2.1; omega, h2.2.2.2⟩)]
theorem tbm_no {D : Nat → Bool} {i : Nat} {s : Nat → Int32} (h : D i = true → s (45 + 8 * i + 6) = 1) : tbm D (i + 1) s = tbm D i s := by
  funext x
  unfold tbm
  by_cases h1 : 45 ≤ x ∧ (x - 45) % 8 = 6 ∧ (x - 45) / 8 < i ∧ D ((x - 45) / 8) = true
  · rw [if_pos h1, if_pos ⟨h1.1, h1.2.1, by omega, h1.2.2.2⟩]
  · rw [if_neg h1]
    by_cases h2 : 45 ≤ x ∧ (x - 45) % 8 = 6 ∧ (x - 45) / 8 < i + 1 ∧ D ((x - 45) / 8) = true
    · have h3 : (x - 45) / 8 = i := by
        have h4 : ¬ (x - 45) / 8 < i := fun h4 => h1 ⟨h2.1, h2.2.1, h4, h2.2.2.2⟩
        omega
      rw [if_pos h2]
      have h5 := h (by rw [← h3]; exact h2.2.2.2)
      have h6 : 45 + 8 * i + 6 = x := by
        have := h2.1
        have := h2.2.1
        omega
      rw [← h5, h6]
    · rw [if_neg h2]
theorem tbm_ne {D : Nat → Bool} {i x : Nat} {s : Nat → Int32} (h : x < 45 ∨ (x - 45) % 8 ≠ 6 ∨ ¬ (x - 45) / 8 < i) : tbm D i s x = s x := if_neg (by omega)
theorem tbm_at {D : Nat → Bool} {i p : Nat} {s : Nat → Int32} (h : p < i) : tbm D i s (45 + 8 * p + 6) = if D p = true then 1 else s (45 + 8 * p + 6) := by
  unfold tbm
  rw [show (45 + 8 * p + 6 - 45) / 8 = p by omega]
  by_cases hd : D p = true
  · rw [if_pos ⟨by omega, by omega, h, hd⟩, if_pos hd]
  · rw [if_neg (fun h => hd h.2.2.2), if_neg hd]
section WITHDRAW
variable {b : Nat} {u v : Int64} {A : Nat → Nat → Int32} {τ : Nat × Nat × Nat × (Nat → Int32)} {tick kept y z : Int32} {mr ar lr nr l : Nat} {mf af lf nf s : Nat → Int32}
theorem wd_in (hm : lr ≤ 20) : ∀ (L : List Nat) (x : Int32) (acc : Bool), IsCh (fun j => s (45 + 8 * j + 4)) lr x L → ev 189 79 [some (.ref 60), some (.int (nI l)), some (.int y), some (.int z), some (.int (if acc then 1 else 0)), some (.int x)] [] (MS b u v A τ s) = ev 189 119 [some (.ref 60), some (.int (nI l)), some (.int y), some (.int z), some (.int (if acc || L.any (fun j => decide (nI j = nI l)) then 1 else 0)), some (.int (-9))] [] (MS b u v A τ s)
  | [], x, acc, h => by
    have hx : x = -9 := h
    subst hx
    rw [e189_79]
    simp (disch := first | omega | assumption | exact Nat.le_of_ble_eq_true rfl) only [m189, e189_81, e189_83, Bool.false_eq_true, gfK, pfK, lnK, isC, alK_n, asK_n, List.getElem?_cons_zero, List.getElem?_cons_succ, List.set_cons_zero, List.set_cons_succ, List.length_cons, List.length_nil, ↓reduceIte, if_true, if_false, eq_self, and_true, true_and, and_self, Option.bind_some, Option.bind_none, Option.toList_some, Option.toList_none, List.cons_append, List.nil_append, mset_at, mset_ne, mset_2, mset_mset, Nat.reduceLT, Nat.reduceAdd, List.any_nil, Bool.or_false]
  | j :: L, x, acc, ⟨h1, h2, h3⟩ => by
    subst h1
    have ih := fun acc => wd_in hm L _ acc h3
    have i0 := ih false
    have i1 := ih true
    rw [if_pos rfl] at i1
    rw [if_neg Bool.false_ne_true] at i0
    have hj : j < 20 := by omega
    rw [e189_79]
    by_cases hy : nI j = nI l
    · cases acc
      · simp (disch := first | omega | assumption | exact Nat.le_of_ble_eq_true rfl) only [m189, e189_81, e189_83, e189_86, e189_88, e189_90, e189_91, e189_94, e189_95, e189_98, e189_99, e189_100i, e189_100n, e189_100r, e189_102, e189_103, e189_106, e189_108, e189_111, e189_112, e189_113, e189_114i, e189_114n, e189_114r, e189_116, Bool.false_eq_true, gfK, pfK, lnK, isC, alK_n, asK_n, List.getElem?_cons_zero, List.getElem?_cons_succ, List.set_cons_zero, List.set_cons_succ, List.length_cons, List.length_nil, ↓reduceIte, if_true, if_false, eq_self, and_true, true_and, and_self, Option.bind_some, Option.bind_none, Option.toList_some, Option.toList_none, List.cons_append, List.nil_append, mset_at, mset_ne, mset_2, mset_mset, Nat.reduceLT, Nat.reduceAdd, nI_ne9, M_60, M_70, M_leaveAt, ra_4, eq_true hy, show (0 : Int32) ||| 1 = 1 from by decide, i1, List.any_cons, decide_true, Bool.true_or, Bool.or_true, Bool.false_eq_true]
      · simp (disch := first | omega | assumption | exact Nat.le_of_ble_eq_true rfl) only [m189, e189_81, e189_83, e189_86, e189_88, e189_90, e189_91, e189_94, e189_95, e189_98, e189_99, e189_100i, e189_100n, e189_100r, e189_102, e189_103, e189_106, e189_108, e189_111, e189_112, e189_113, e189_114i, e189_114n, e189_114r, e189_116, Bool.false_eq_true, gfK, pfK, lnK, isC, alK_n, asK_n, List.getElem?_cons_zero, List.getElem?_cons_succ, List.set_cons_zero, List.set_cons_succ, List.length_cons, List.length_nil, ↓reduceIte, if_true, if_false, eq_self, and_true, true_and, and_self, Option.bind_some, Option.bind_none, Option.toList_some, Option.toList_none, List.cons_append, List.nil_append, mset_at, mset_ne, mset_2, mset_mset, Nat.reduceLT, Nat.reduceAdd, nI_ne9, M_60, M_70, M_leaveAt, ra_4, eq_true hy, show (1 : Int32) ||| 1 = 1 from by decide, i1, List.any_cons, decide_true, Bool.true_or, Bool.or_true]
    · cases acc
      · simp (disch := first | omega | assumption | exact Nat.le_of_ble_eq_true rfl) only [m189, e189_81, e189_83, e189_86, e189_88, e189_90, e189_91, e189_94, e189_95, e189_98, e189_99, e189_100i, e189_100n, e189_100r, e189_102, e189_103, e189_106, e189_108, e189_111, e189_112, e189_113, e189_114i, e189_114n, e189_114r, e189_116, Bool.false_eq_true, gfK, pfK, lnK, isC, alK_n, asK_n, List.getElem?_cons_zero, List.getElem?_cons_succ, List.set_cons_zero, List.set_cons_succ, List.length_cons, List.length_nil, ↓reduceIte, if_true, if_false, eq_self, and_true, true_and, and_self, Option.bind_some, Option.bind_none, Option.toList_some, Option.toList_none, List.cons_append, List.nil_append, mset_at, mset_ne, mset_2, mset_mset, Nat.reduceLT, Nat.reduceAdd, nI_ne9, M_60, M_70, M_leaveAt, ra_4, hy, show (0 : Int32) ||| 0 = 0 from by decide, i0, List.any_cons, decide_false, Bool.false_or, Bool.false_eq_true]
      · simp (disch := first | omega | assumption | exact Nat.le_of_ble_eq_true rfl) only [m189, e189_81, e189_83, e189_86, e189_88, e189_90, e189_91, e189_94, e189_95, e189_98, e189_99, e189_100i, e189_100n, e189_100r, e189_102, e189_103, e189_106, e189_108, e189_111, e189_112, e189_113, e189_114i, e189_114n, e189_114r, e189_116, Bool.false_eq_true, gfK, pfK, lnK, isC, alK_n, asK_n, List.getElem?_cons_zero, List.getElem?_cons_succ, List.set_cons_zero, List.set_cons_succ, List.length_cons, List.length_nil, ↓reduceIte, if_true, if_false, eq_self, and_true, true_and, and_self, Option.bind_some, Option.bind_none, Option.toList_some, Option.toList_none, List.cons_append, List.nil_append, mset_at, mset_ne, mset_2, mset_mset, Nat.reduceLT, Nat.reduceAdd, nI_ne9, M_60, M_70, M_leaveAt, ra_4, hy, show (1 : Int32) ||| 0 = 1 from by decide, i1, List.any_cons, decide_false, Bool.true_or]
theorem any_l (hr : lr < 2147483648) (hl : l < lr) : ∀ (L : List Nat), (∀ k, k ∈ L → k < lr) → L.any (fun j => decide (nI j = nI l)) = L.any (fun j => decide (j = l))
  | [], _ => rfl
  | j :: L, h => by
    have hj := h j (List.mem_cons_self ..)
    have e : decide (nI j = nI l) = decide (j = l) := decide_eq_decide.2 ⟨fun g => nI_inj (by omega) (by omega) g, fun g => by rw [g]⟩
    rw [List.any_cons, List.any_cons, any_l hr hl L (fun k hk => h k (List.mem_cons_of_mem _ hk)), e]
theorem wd_out (hm : lr ≤ 20) (s2 : s 2 = nI lr) (hl : l < lr) (h01 : ∀ j, j < lr → s (45 + 8 * j + 6) = 0 ∨ s (45 + 8 * j + 6) = 1) {D : Nat → Bool} (hD : ∀ j, l < j → j < lr → ∃ L, IsCh (fun j => s (45 + 8 * j + 4)) lr (s (45 + 8 * j + 4)) L ∧ L.any (fun j => decide (nI j = nI l)) = D j) : ∀ (n i : Nat) (l4 l5 : Option Value), i + n = lr → l < i → ev 189 53 [some (.ref 60), some (.int (nI l)), some (.int (nI (cntF (fun k => D k && decide (¬ s (45 + 8 * k + 6) = 1)) i))), some (.int (nI i)), l4, l5] [] (MS b u v A τ (tbm D i s)) = some (some (.int (nI (cntF (fun k => D k && decide (¬ s (45 + 8 * k + 6) = 1)) lr))), (MS b u v A τ (tbm D lr s)))
  | 0, i, l4, l5, hi, hli => by
    have : i = lr := by omega
    subst this
    have e2 : tbm D i s 2 = s 2 := tbm_ne (by omega)
    rw [e189_53]
    simp (disch := first | omega | assumption | exact Nat.le_of_ble_eq_true rfl) only [m189, e189_54, e189_55, e189_58, e189_59, e189_60, Bool.false_eq_true, gfK, pfK, lnK, isC, alK_n, asK_n, List.getElem?_cons_zero, List.getElem?_cons_succ, List.set_cons_zero, List.set_cons_succ, List.length_cons, List.length_nil, ↓reduceIte, if_true, if_false, eq_self, and_true, true_and, and_self, Option.bind_some, Option.bind_none, Option.toList_some, Option.toList_none, List.cons_append, List.nil_append, mset_at, mset_ne, mset_2, mset_mset, Nat.reduceLT, Nat.reduceAdd, M_60, M_70, alK_l2, e2, s2, nI_leI, Nat.le_refl, e189_161, e189_162]
  | n + 1, i, l4, l5, hi, hli => by
    have ih := fun l4 l5 => wd_out hm s2 hl h01 hD n (i + 1) l4 l5 (by omega) (by omega)
    have hi' : i < lr := by omega
    have h9 : ¬ lr ≤ i := by omega
    have e2 : tbm D i s 2 = s 2 := tbm_ne (by omega)
    have e4 : tbm D i s (45 + 8 * i + 4) = s (45 + 8 * i + 4) := tbm_ne (by omega)
    have e6 : tbm D i s (45 + 8 * i + 6) = s (45 + 8 * i + 6) := tbm_ne (by omega)
    obtain ⟨L, hL, hLD⟩ := hD i hli hi'
    have hin := fun y z => wd_in (b := b) (u := u) (v := v) (A := A) (τ := τ) (y := y) (z := z) (l := l) hm L _ false (ch_congr (g' := fun j => tbm D i s (45 + 8 * j + 4)) (fun k hk => (tbm_ne (by omega)).symm) L _ hL)
    rw [if_neg Bool.false_ne_true, Bool.false_or, hLD] at hin
    rw [e189_53]
    by_cases hd : D i = true
    · rw [hd, if_pos rfl] at hin
      rcases h01 i hi' with h | h
      · rw [tbm_yes hd, cntF, if_pos (by rw [hd, h]; decide)] at ih
        simp (disch := first | omega | assumption | exact Nat.le_of_ble_eq_true rfl) only [m189, e189_54, e189_55, e189_58, e189_59, e189_60, e189_63, e189_64i, e189_64n, e189_64r, e189_66, e189_67, e189_70, e189_71, e189_74, e189_75, e189_76, e189_77i, e189_77n, e189_77r, e189_81, e189_83, e189_86, e189_88, e189_90, e189_91, e189_94, e189_95, e189_98, e189_99, e189_100i, e189_100n, e189_100r, e189_102, e189_103, e189_106, e189_108, e189_111, e189_112, e189_113, e189_114i, e189_114n, e189_114r, e189_116, e189_119, e189_121, e189_124, e189_125, e189_128, e189_129, e189_132, e189_134, e189_135, e189_136, e189_139, e189_140, e189_143, e189_144, e189_147, e189_149, e189_150, e189_151, e189_152i, e189_152n, e189_152r, e189_155i, e189_155n, e189_155r, e189_158, Bool.false_eq_true, gfK, pfK, lnK, isC, alK_n, asK_n, List.getElem?_cons_zero, List.getElem?_cons_succ, List.set_cons_zero, List.set_cons_succ, List.length_cons, List.length_nil, ↓reduceIte, if_true, if_false, eq_self, and_true, true_and, and_self, Option.bind_some, Option.bind_none, Option.toList_some, Option.toList_none, List.cons_append, List.nil_append, mset_at, mset_ne, mset_2, mset_mset, Nat.reduceLT, Nat.reduceAdd, M_60, M_70, M_S70, M_leaveAt, alK_l2, e2, s2, nI_leI, h9, ra_4, ra_6, e4, e6, hin, h, nz1, nI_succ', ih]
      · rw [tbm_no (fun _ => h), cntF, if_neg (by rw [h, Bool.and_eq_true]; exact fun g => absurd rfl (of_decide_eq_true g.2)), Nat.add_zero] at ih
        simp (disch := first | omega | assumption | exact Nat.le_of_ble_eq_true rfl) only [m189, e189_54, e189_55, e189_58, e189_59, e189_60, e189_63, e189_64i, e189_64n, e189_64r, e189_66, e189_67, e189_70, e189_71, e189_74, e189_75, e189_76, e189_77i, e189_77n, e189_77r, e189_81, e189_83, e189_86, e189_88, e189_90, e189_91, e189_94, e189_95, e189_98, e189_99, e189_100i, e189_100n, e189_100r, e189_102, e189_103, e189_106, e189_108, e189_111, e189_112, e189_113, e189_114i, e189_114n, e189_114r, e189_116, e189_119, e189_121, e189_124, e189_125, e189_128, e189_129, e189_132, e189_134, e189_135, e189_136, e189_139, e189_140, e189_143, e189_144, e189_147, e189_149, e189_150, e189_151, e189_152i, e189_152n, e189_152r, e189_155i, e189_155n, e189_155r, e189_158, Bool.false_eq_true, gfK, pfK, lnK, isC, alK_n, asK_n, List.getElem?_cons_zero, List.getElem?_cons_succ, List.set_cons_zero, List.set_cons_succ, List.length_cons, List.length_nil, ↓reduceIte, if_true, if_false, eq_self, and_true, true_and, and_self, Option.bind_some, Option.bind_none, Option.toList_some, Option.toList_none, List.cons_append, List.nil_append, mset_at, mset_ne, mset_2, mset_mset, Nat.reduceLT, Nat.reduceAdd, M_60, M_70, M_S70, M_leaveAt, alK_l2, e2, s2, nI_leI, h9, ra_4, ra_6, e4, e6, hin, h, nz1, nI_succ', ih]
    · rw [if_neg hd] at hin
      rw [tbm_no (fun g => absurd g hd), cntF, if_neg (by rw [Bool.and_eq_true]; exact fun g => hd g.1), Nat.add_zero] at ih
      simp (disch := first | omega | assumption | exact Nat.le_of_ble_eq_true rfl) only [m189, e189_54, e189_55, e189_58, e189_59, e189_60, e189_63, e189_64i, e189_64n, e189_64r, e189_66, e189_67, e189_70, e189_71, e189_74, e189_75, e189_76, e189_77i, e189_77n, e189_77r, e189_81, e189_83, e189_86, e189_88, e189_90, e189_91, e189_94, e189_95, e189_98, e189_99, e189_100i, e189_100n, e189_100r, e189_102, e189_103, e189_106, e189_108, e189_111, e189_112, e189_113, e189_114i, e189_114n, e189_114r, e189_116, e189_119, e189_121, e189_124, e189_125, e189_128, e189_129, e189_132, e189_134, e189_135, e189_136, e189_139, e189_140, e189_143, e189_144, e189_147, e189_149, e189_150, e189_151, e189_152i, e189_152n, e189_152r, e189_155i, e189_155n, e189_155r, e189_158, Bool.false_eq_true, gfK, pfK, lnK, isC, alK_n, asK_n, List.getElem?_cons_zero, List.getElem?_cons_succ, List.set_cons_zero, List.set_cons_succ, List.length_cons, List.length_nil, ↓reduceIte, if_true, if_false, eq_self, and_true, true_and, and_self, Option.bind_some, Option.bind_none, Option.toList_some, Option.toList_none, List.cons_append, List.nil_append, mset_at, mset_ne, mset_2, mset_mset, Nat.reduceLT, Nat.reduceAdd, M_60, M_70, M_S70, M_leaveAt, alK_l2, e2, s2, nI_leI, h9, ra_4, ra_6, e4, e6, hin, nI_succ', ih]
theorem c_withdraw (hJ : JB tick mr mf ar af lr lf nr nf s) (x : Int32) : ∃ r lf' s', (∀ b u v A τ, evM 108 [.ref 0, .int x] (BS b u v A τ tick kept mr mf ar af lr lf nr nf) = some (some (.int r), (BS b u v A τ tick kept mr mf ar af lr lf' nr nf))) ∧ (∀ b u v A τ, A 60 0 = 0 → evM 189 [.ref 60, .int x] (MS b u v A τ s) = some (some (.int r), (MS b u v A τ s'))) ∧ JB tick mr mf ar af lr lf' nr nf s' := by
  obtain ⟨⟨c1, c2, c3, c4, c5, s0, s1, s2, s3, s4⟩, jm, ja, jl, jn⟩ := id hJ
  rcases idx x (n := lr) (by omega) with hx | ⟨l, hl, rfl⟩
  · refine ⟨-1, lf, s, fun b u v A τ => ?_, fun b u v A τ hT => ?_, hJ⟩
    · simp (disch := first | omega | assumption | exact Nat.le_of_ble_eq_true rfl) only [m108, e108_0, e108_1, e108_4, e108_7, e108_8, e108_11, e108_14, e108_15, e108_16, e108_17, e108_20, e108_21, e108_24, e108_27, e108_29, e108_30, e108_31, e108_34, e108_35, e108_38, Bool.false_eq_true, gfK, pfK, lnK, isC, alK_n, asK_n, List.getElem?_cons_zero, List.getElem?_cons_succ, List.set_cons_zero, List.set_cons_succ, List.length_cons, List.length_nil, ↓reduceIte, if_true, if_false, eq_self, and_true, true_and, and_self, Option.bind_some, Option.bind_none, Option.toList_some, Option.toList_none, List.cons_append, List.nil_append, mset_at, mset_ne, mset_2, mset_mset, Nat.reduceLT, Nat.reduceAdd, B_0, B_30, B_S30, mTR, aTR, lTR, nTR, lHasN c4 hx]
    · simp (disch := first | omega | assumption | exact Nat.le_of_ble_eq_true rfl) only [m189, e189_0, e189_1, e189_2, e189_5, e189_6, e189_7, e189_10, e189_13, e189_14, e189_15, e189_16, e189_19, e189_20, e189_23, e189_25, e189_26, e189_27, e189_28, e189_31, e189_33, e189_34, e189_35, e189_38, e189_39, e189_42, e189_44, e189_45, e189_46, e189_47, e189_48i, e189_48n, e189_48r, e189_49, e189_50, e189_51, e189_52i, e189_52n, e189_52r, e189_54, e189_55, e189_58, e189_59, e189_60, e189_63, e189_64i, e189_64n, e189_64r, e189_66, e189_67, e189_70, e189_71, e189_74, e189_75, e189_76, e189_77i, e189_77n, e189_77r, e189_81, e189_83, e189_86, e189_88, e189_90, e189_91, e189_94, e189_95, e189_98, e189_99, e189_100i, e189_100n, e189_100r, e189_102, e189_103, e189_106, e189_108, e189_111, e189_112, e189_113, e189_114i, e189_114n, e189_114r, e189_116, e189_119, e189_121, e189_124, e189_125, e189_128, e189_129, e189_132, e189_134, e189_135, e189_136, e189_139, e189_140, e189_143, e189_144, e189_147, e189_149, e189_150, e189_151, e189_152i, e189_152n, e189_152r, e189_155i, e189_155n, e189_155r, e189_158, e189_161, e189_162, Bool.false_eq_true, gfK, pfK, lnK, isC, alK_n, asK_n, List.getElem?_cons_zero, List.getElem?_cons_succ, List.set_cons_zero, List.set_cons_succ, List.length_cons, List.length_nil, ↓reduceIte, if_true, if_false, eq_self, and_true, true_and, and_self, Option.bind_some, Option.bind_none, Option.toList_some, Option.toList_none, List.cons_append, List.nil_append, mset_at, mset_ne, mset_2, mset_mset, Nat.reduceLT, Nat.reduceAdd, M_60, M_thr hT, M_isLeave s2 (by omega), not_in hx]
  · have hin := is_in hl (by omega)
    have e7 := (jl.1 l hl).1.2
    by_cases hw : s (45 + 8 * l + 6) = 1
    · refine ⟨-2, lf, s, fun b u v A τ => ?_, fun b u v A τ hT => ?_, hJ⟩
      · simp (disch := first | omega | assumption | exact Nat.le_of_ble_eq_true rfl) only [m108, e108_0, e108_1, e108_4, e108_7, e108_8, e108_11, e108_14, e108_15, e108_16, e108_17, e108_20, e108_21, e108_24, e108_27, e108_29, e108_30, e108_31, e108_34, e108_35, e108_38, Bool.false_eq_true, gfK, pfK, lnK, isC, alK_n, asK_n, List.getElem?_cons_zero, List.getElem?_cons_succ, List.set_cons_zero, List.set_cons_succ, List.length_cons, List.length_nil, ↓reduceIte, if_true, if_false, eq_self, and_true, true_and, and_self, Option.bind_some, Option.bind_none, Option.toList_some, Option.toList_none, List.cons_append, List.nil_append, mset_at, mset_ne, mset_2, mset_mset, Nat.reduceLT, Nat.reduceAdd, B_0, B_30, B_S30, mTR, aTR, lTR, nTR, lHas, B_isWithdrawn c4 hl, e7, hw, nz1]
      · simp (disch := first | omega | assumption | exact Nat.le_of_ble_eq_true rfl) only [m189, e189_0, e189_1, e189_2, e189_5, e189_6, e189_7, e189_10, e189_13, e189_14, e189_15, e189_16, e189_19, e189_20, e189_23, e189_25, e189_26, e189_27, e189_28, e189_31, e189_33, e189_34, e189_35, e189_38, e189_39, e189_42, e189_44, e189_45, e189_46, e189_47, e189_48i, e189_48n, e189_48r, e189_49, e189_50, e189_51, e189_52i, e189_52n, e189_52r, e189_54, e189_55, e189_58, e189_59, e189_60, e189_63, e189_64i, e189_64n, e189_64r, e189_66, e189_67, e189_70, e189_71, e189_74, e189_75, e189_76, e189_77i, e189_77n, e189_77r, e189_81, e189_83, e189_86, e189_88, e189_90, e189_91, e189_94, e189_95, e189_98, e189_99, e189_100i, e189_100n, e189_100r, e189_102, e189_103, e189_106, e189_108, e189_111, e189_112, e189_113, e189_114i, e189_114n, e189_114r, e189_116, e189_119, e189_121, e189_124, e189_125, e189_128, e189_129, e189_132, e189_134, e189_135, e189_136, e189_139, e189_140, e189_143, e189_144, e189_147, e189_149, e189_150, e189_151, e189_152i, e189_152n, e189_152r, e189_155i, e189_155n, e189_155r, e189_158, e189_161, e189_162, Bool.false_eq_true, gfK, pfK, lnK, isC, alK_n, asK_n, List.getElem?_cons_zero, List.getElem?_cons_succ, List.set_cons_zero, List.set_cons_succ, List.length_cons, List.length_nil, ↓reduceIte, if_true, if_false, eq_self, and_true, true_and, and_self, Option.bind_some, Option.bind_none, Option.toList_some, Option.toList_none, List.cons_append, List.nil_append, mset_at, mset_ne, mset_2, mset_mset, Nat.reduceLT, Nat.reduceAdd, M_60, M_70, M_thr hT, M_isLeave s2 (by omega), hin, M_leaveAt, ra_6, hw, nz1]
    · obtain ⟨Ls, hL⟩ := JB_l jl c4
      obtain ⟨D, hDd⟩ : ∃ D : Nat → Bool, ∀ j, D j = (Ls j).any (fun j => decide (j = l)) := ⟨_, fun _ => rfl⟩
      have hLs : ∀ j, j < lr → ∃ L', Ls j = j :: L' ∧ IsCh (fun j => s (45 + 8 * j + 4)) lr (s (45 + 8 * j + 4)) L' := fun j hj => by
        obtain ⟨_, L2, _⟩ := hL j hj
        cases hLj : Ls j with
        | nil =>
          rw [hLj] at L2
          exact absurd L2 (fun g => (nI_ne9 (n := j) (by omega)).mp g)
        | cons i L' =>
          rw [hLj] at L2
          have hi : j = i := nI_inj (by omega) (by have := L2.2.1; omega) L2.1
          subst hi
          exact ⟨L', rfl, L2.2.2⟩
      have h0 : ∀ i, i < lr → s (45 + 8 * i + 4) = -9 → D i = decide (i = l) := fun i hi h => by
        obtain ⟨L', e1, e2⟩ := hLs i hi
        rw [h] at e2
        have e3 : L' = [] := ch_uniq (by omega) L' [] _ e2 rfl
        rw [hDd, e1, e3, List.any_cons, List.any_nil, Bool.or_false]
      have h1 : ∀ i p, i < lr → p < i → s (45 + 8 * i + 4) = nI p → D i = (decide (i = l) || D p) := fun i p hi hp h => by
        obtain ⟨L', e1, e2⟩ := hLs i hi
        rw [h] at e2
        have e3 : L' = Ls p := ch_uniq (by omega) L' _ _ e2 (hL p (by omega)).2.1
        rw [hDd, hDd, e1, e3, List.any_cons]
      have hDl : D l = true := by
        obtain ⟨L', e1, e2⟩ := hLs l hl
        rw [hDd, e1, List.any_cons, decide_eq_true rfl, Bool.true_or]
      have hlow : ∀ n i, i < n → i < l → D i = false := by
        intro n
        induction n with
        | zero => intro i hi; omega
        | succ n ih =>
          intro i hi hil
          rcases jl.2 i (by omega) with h2 | ⟨p, hp, h2⟩
          · rw [h0 i (by omega) h2, decide_eq_false (by omega)]
          · rw [h1 i p (by omega) hp h2, ih p (by omega) (by omega), decide_eq_false (by omega), Bool.false_or]
      have hf4 : ∀ i, i < lr → lf (i * 8 + 4) = s (45 + 8 * i + 4) := fun i hi => (jl.1 i hi).1.1 4 (by omega)
      have hf7 : ∀ i, i < lr → lf (i * 8 + 7) = s (45 + 8 * i + 6) := fun i hi => (jl.1 i hi).1.2
      have hcc : cntF (fun k => D k && decide (¬ lf (k * 8 + 7) = 1)) lr = cntF (fun k => D k && decide (¬ s (45 + 8 * k + 6) = 1)) lr := cntF_congr lr (fun k hk => by rw [hf7 k hk])
      refine ⟨nI (cntF (fun k => D k && decide (¬ s (45 + 8 * k + 6) = 1)) lr), tbk D lr lf, tbm D lr s, fun b u v A τ => ?_, fun b u v A τ hT => ?_, ⟨c1, c2, c3, c4, c5, ?_, ?_, ?_, ?_, ?_⟩, ?_, ?_, ⟨fun j hj => ?_, ?_⟩, ?_⟩
      · have ht := B_takeBack (b := b) (u := u) (v := v) (A := A) (τ := τ) (tick := tick) (kept := kept) (ar := ar) (af := af) (mr := mr) (mf := mf) (nr := nr) (nf := nf) (lf := lf) c4 hl (D := D) (fun i hi h => h0 i hi ((hf4 i hi).symm.trans h)) (fun i p hi hp h => h1 i p hi hp ((hf4 i hi).symm.trans h)) (ParOK_s hf4 jl.2) (fun i p hi hp h h' => (hf7 i hi).trans ((jl.1 i hi).2.2.2 p hp ((hf4 i hi).symm.trans h) ((hf7 p (by omega)).symm.trans h')))
        rw [hcc] at ht
        simp (disch := first | omega | assumption | exact Nat.le_of_ble_eq_true rfl) only [m108, e108_0, e108_1, e108_4, e108_7, e108_8, e108_11, e108_14, e108_15, e108_16, e108_17, e108_20, e108_21, e108_24, e108_27, e108_29, e108_30, e108_31, e108_34, e108_35, e108_38, Bool.false_eq_true, gfK, pfK, lnK, isC, alK_n, asK_n, List.getElem?_cons_zero, List.getElem?_cons_succ, List.set_cons_zero, List.set_cons_succ, List.length_cons, List.length_nil, ↓reduceIte, if_true, if_false, eq_self, and_true, true_and, and_self, Option.bind_some, Option.bind_none, Option.toList_some, Option.toList_none, List.cons_append, List.nil_append, mset_at, mset_ne, mset_2, mset_mset, Nat.reduceLT, Nat.reduceAdd, B_0, B_30, B_S30, mTR, aTR, lTR, nTR, lHas, B_isWithdrawn c4 hl, e7, hw, ht, nz1]
      · have hz : s (45 + 8 * l + 6) = 0 := (jl.1 l hl).2.1.resolve_right hw
        have hc1 : cntF (fun k => D k && decide (¬ s (45 + 8 * k + 6) = 1)) (l + 1) = 1 := by
          rw [cntF, cntF_0 l (fun k hk => by rw [hlow (k + 1) k (by omega) hk, Bool.false_and]), if_pos (by rw [hDl, hz]; decide)]
        have ht0 : ∀ n, n ≤ l → tbm D n s = s := by
          intro n
          induction n with
          | zero => intro _; exact funext fun x => tbm_ne (by omega)
          | succ n ih =>
            intro hn
            rw [tbm_no (fun g => absurd g (by rw [hlow (n + 1) n (by omega) (by omega)]; exact Bool.false_ne_true)), ih (by omega)]
        have ht1 : tbm D (l + 1) s = upd s (45 + 8 * l + 6) 1 := by
          rw [tbm_yes hDl, ht0 l (Nat.le_refl l)]
        have hlp := wd_out (b := b) (u := u) (v := v) (A := A) (τ := τ) c4 s2 hl (fun j hj => (jl.1 j hj).2.1) (D := D) (fun j hj hj' => by
          obtain ⟨L', e1, e2⟩ := hLs j hj'
          refine ⟨L', e2, ?_⟩
          rw [any_l (by omega) hl L' (ch_lt L' _ e2), hDd, e1, List.any_cons, decide_eq_false (p := j = l) (by omega), Bool.false_or]) (lr - (l + 1)) (l + 1) none none (by omega) (by omega)
        rw [hc1, ht1] at hlp
        rw [← lit_1] at hlp
        simp (disch := first | omega | assumption | exact Nat.le_of_ble_eq_true rfl) only [m189, e189_0, e189_1, e189_2, e189_5, e189_6, e189_7, e189_10, e189_13, e189_14, e189_15, e189_16, e189_19, e189_20, e189_23, e189_25, e189_26, e189_27, e189_28, e189_31, e189_33, e189_34, e189_35, e189_38, e189_39, e189_42, e189_44, e189_45, e189_46, e189_47, e189_48i, e189_48n, e189_48r, e189_49, e189_50, e189_51, e189_52i, e189_52n, e189_52r, e189_54, e189_55, e189_58, e189_59, e189_60, e189_63, e189_64i, e189_64n, e189_64r, e189_66, e189_67, e189_70, e189_71, e189_74, e189_75, e189_76, e189_77i, e189_77n, e189_77r, e189_81, e189_83, e189_86, e189_88, e189_90, e189_91, e189_94, e189_95, e189_98, e189_99, e189_100i, e189_100n, e189_100r, e189_102, e189_103, e189_106, e189_108, e189_111, e189_112, e189_113, e189_114i, e189_114n, e189_114r, e189_116, e189_119, e189_121, e189_124, e189_125, e189_128, e189_129, e189_132, e189_134, e189_135, e189_136, e189_139, e189_140, e189_143, e189_144, e189_147, e189_149, e189_150, e189_151, e189_152i, e189_152n, e189_152r, e189_155i, e189_155n, e189_155r, e189_158, e189_161, e189_162, Bool.false_eq_true, gfK, pfK, lnK, isC, alK_n, asK_n, List.getElem?_cons_zero, List.getElem?_cons_succ, List.set_cons_zero, List.set_cons_succ, List.length_cons, List.length_nil, ↓reduceIte, if_true, if_false, eq_self, and_true, true_and, and_self, Option.bind_some, Option.bind_none, Option.toList_some, Option.toList_none, List.cons_append, List.nil_append, mset_at, mset_ne, mset_2, mset_mset, Nat.reduceLT, Nat.reduceAdd, M_60, M_70, M_S70, M_thr hT, M_isLeave s2 (by omega), hin, M_leaveAt, ra_6, hw, nI_succ', hlp, nz1]
      · rw [tbm_ne (by omega), s0]
      · rw [tbm_ne (by omega), s1]
      · rw [tbm_ne (by omega), s2]
      · rw [tbm_ne (by omega), s3]
      · rw [tbm_ne (by omega), s4]
      · exact JBm_s c2 (fun i h1 h2 => tbm_ne (by omega)) jm
      · exact JBa_s c3 (fun i h1 h2 => tbm_ne (by omega)) ja
      · obtain ⟨⟨g1, g2⟩, g3, g4, g5⟩ := jl.1 j hj
        rw [tbm_at hj, tbk_at hj, tbm_ne (x := 45 + 8 * j + 4) (by omega), tbm_ne (x := 45 + 8 * j) (by omega), g2]
        refine ⟨⟨fun c hc => ?_, rfl⟩, ?_, g4, fun p hp hp1 hp2 => ?_⟩
        · rw [tbk_ne (by omega), tbm_ne (by omega), g1 c hc]
        · by_cases hd : D j = true
          · rw [if_pos hd]; exact Or.inr rfl
          · rw [if_neg hd]; exact g3
        · rw [tbm_at (by omega)] at hp2
          by_cases hd : D p = true
          · rw [h1 j p hj hp hp1, hd, Bool.or_true, if_pos rfl]
          · rw [if_neg hd] at hp2
            have := g5 p hp hp1 hp2
            rw [this]
            split <;> rfl
      · exact ParOK_s (fun j hj => tbm_ne (by omega)) jl.2
      · exact JBn_s c5 (fun i h1 h2 => tbm_ne (by omega)) jn
end WITHDRAW
