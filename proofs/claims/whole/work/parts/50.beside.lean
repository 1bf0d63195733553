/-! CALLS: beside, undo. -/
section BESIDE
variable {b : Nat} {u v : Int64} {A : Nat → Nat → Int32} {τ : Nat × Nat × Nat × (Nat → Int32)} {lc : Nat → Nat} {lt : Nat → Nat → Nat} {s d e i a m t : Nat} {x y z : Int32} {σ : mS} {l2 l3 l4 l5 l6 : Option Value} {pr kd : Nat → Nat}
variable {tick kept : Int32} {mr ar lr nr : Nat} {mf af lf nf st : Nat → Int32}
/-- what a line does to where a machine would be -/
def bst (st : Nat → Int32) (lc : Nat → Nat) (lt : Nat → Nat → Nat) (m i t : Nat) : Nat := if st (205 + 10 * i + 1) = nI m ∧ st (205 + 10 * i + 8) = 0 then ledS lc lt t (st (205 + 10 * i + 2)).toNatClampNeg (st (205 + 10 * i + 9)).toNatClampNeg else t
theorem bst_lt (hW : WF lc lt) (jn : JBn ar lr nr nf st) {i t : Nat} (hi : i < nr) (ht : t < 16) : bst st lc lt m i t < 16 := by
  unfold bst
  split
  · obtain ⟨_, _, ⟨d, hd, e⟩, _⟩ := jn i hi
    rw [e, nI_clamp (by omega)]
    exact ledS_lt hW ht hd
  · exact ht
theorem beside_loop (hb : b = 8 ∨ b = 19) (hC : CW A b lc lt) (hW : WF lc lt) (c5 : nr ≤ 60) (jn : JBn ar lr nr nf st) : ∀ (n i t : Nat), i + n = nr → t < 16 → ev 132 31 [some (.ref 0), some (.int (nI m)), some (.int (nI t)), some (.int (nI i))] [] (BS b u v A τ tick kept mr mf ar af lr lf nr nf) = some (some (.int (nI (fold (bst st lc lt m) i n t))), (BS b u v A τ tick kept mr mf ar af lr lf nr nf))
  | 0, i, t, hi, ht => by
    have : i = nr := by omega
    subst this
    rw [e132_31]
    simp (disch := first | omega | assumption | exact Nat.le_of_ble_eq_true rfl) only [m132, e132_32, e132_33, e132_36, e132_39, e132_42, e132_45, e132_46, e132_48, e132_51, e132_52, e132_55, e132_58, e132_59, e132_60, e132_63, e132_64, e132_67, e132_68, e132_71, e132_74, e132_75, e132_77, e132_80, e132_83, e132_84, e132_87, e132_88, e132_89, e132_92, e132_95, e132_96, e132_97, e132_100, e132_101, e132_104, e132_107, e132_108, e132_110, e132_113, e132_116i, e132_116n, e132_116r, e132_117i, e132_117n, e132_117r, e132_120, e132_123, e132_124, Bool.false_eq_true, Bool.true_eq_false, gfK, pfK, lnK, isC, alK_n, asK_n, List.getElem?_cons_zero, List.getElem?_cons_succ, List.set_cons_zero, List.set_cons_succ, List.length_cons, List.length_nil, ↓reduceIte, if_true, if_false, eq_self, and_true, true_and, and_self, Option.bind_some, Option.bind_none, Option.toList_some, Option.toList_none, List.cons_append, List.nil_append, mset_at, mset_ne, mset_2, mset_mset, Nat.reduceLT, Nat.reduceAdd, B_0, B_30, B_S30, mTR, aTR, lTR, nTR, nI_leI, Nat.le_refl, fold]
  | n + 1, i, t, hi, ht => by
    have hi' : i < nr := by omega
    have h9 : ¬ nr ≤ i := by omega
    have h60 : ¬ 60 ≤ i := by omega
    have hbl := bst_lt (m := m) hW jn hi' ht
    have ih := beside_loop hb hC hW c5 jn n (i + 1) (bst st lc lt m i t) (by omega) hbl
    obtain ⟨ec, ⟨m', hm', e1⟩, ⟨d, hd, e2⟩, ⟨d3, hd3, e3⟩, ⟨t4, ht4, e4⟩, ⟨l6, hl6, e6⟩, e8, ⟨l, hl, e9⟩⟩ := jn i hi'
    have f1 := ec 1 (by omega)
    have f2 := (ec 2 (by omega)).trans e2
    have f8 := ec 8 (by omega)
    have f9 := (ec 9 (by omega)).trans e9
    have hled : evM 82 [.ref b, .int (nI t), .int (nI d), .int (nI l)] (BS b u v A τ tick kept mr mf ar af lr lf nr nf) = some (some (.int (nI (ledS lc lt t d l))), (BS b u v A τ tick kept mr mf ar af lr lf nr nf)) := W_ledTo hb (CW_BA hb hC) hW ht hd hl
    rw [show fold (bst st lc lt m) i (n + 1) t = fold (bst st lc lt m) (i + 1) n (bst st lc lt m i t) from rfl]
    rw [e132_31]
    by_cases g1 : st (205 + 10 * i + 1) = nI m
    · by_cases g2 : st (205 + 10 * i + 8) = 0
      · have hbe : bst st lc lt m i t = ledS lc lt t d l := by
          unfold bst
          rw [if_pos ⟨g1, g2⟩, e2, e9, nI_clamp (by omega), nI_clamp (by omega)]
        rw [hbe] at ih ⊢
        simp (disch := first | omega | assumption | exact Nat.le_of_ble_eq_true rfl) only [m132, e132_32, e132_33, e132_36, e132_39, e132_42, e132_45, e132_46, e132_48, e132_51, e132_52, e132_55, e132_58, e132_59, e132_60, e132_63, e132_64, e132_67, e132_68, e132_71, e132_74, e132_75, e132_77, e132_80, e132_83, e132_84, e132_87, e132_88, e132_89, e132_92, e132_95, e132_96, e132_97, e132_100, e132_101, e132_104, e132_107, e132_108, e132_110, e132_113, e132_116i, e132_116n, e132_116r, e132_117i, e132_117n, e132_117r, e132_120, Bool.false_eq_true, Bool.true_eq_false, gfK, pfK, lnK, isC, alK_n, asK_n, List.getElem?_cons_zero, List.getElem?_cons_succ, List.set_cons_zero, List.set_cons_succ, List.length_cons, List.length_nil, ↓reduceIte, if_true, if_false, eq_self, and_true, true_and, and_self, Option.bind_some, Option.bind_none, Option.toList_some, Option.toList_none, List.cons_append, List.nil_append, mset_at, mset_ne, mset_2, mset_mset, Nat.reduceLT, Nat.reduceAdd, B_0, B_W0 hb, B_30, B_S30, mTR, aTR, lTR, nTR, nI_leI, h9, le_60, h60, nGet_1, nGet_2, nGet_8, nGet_9, f1, f2, f8, f9, eq_true g1, eq_true g2, hled, nI_succ', ih]
      · have hbe : bst st lc lt m i t = t := by
          unfold bst
          rw [if_neg (fun q => g2 q.2)]
        rw [hbe] at ih ⊢
        simp (disch := first | omega | assumption | exact Nat.le_of_ble_eq_true rfl) only [m132, e132_32, e132_33, e132_36, e132_39, e132_42, e132_45, e132_46, e132_48, e132_51, e132_52, e132_55, e132_58, e132_59, e132_60, e132_63, e132_64, e132_67, e132_68, e132_71, e132_74, e132_75, e132_77, e132_80, e132_83, e132_84, e132_87, e132_88, e132_89, e132_92, e132_95, e132_96, e132_97, e132_100, e132_101, e132_104, e132_107, e132_108, e132_110, e132_113, e132_116i, e132_116n, e132_116r, e132_117i, e132_117n, e132_117r, e132_120, Bool.false_eq_true, Bool.true_eq_false, gfK, pfK, lnK, isC, alK_n, asK_n, List.getElem?_cons_zero, List.getElem?_cons_succ, List.set_cons_zero, List.set_cons_succ, List.length_cons, List.length_nil, ↓reduceIte, if_true, if_false, eq_self, and_true, true_and, and_self, Option.bind_some, Option.bind_none, Option.toList_some, Option.toList_none, List.cons_append, List.nil_append, mset_at, mset_ne, mset_2, mset_mset, Nat.reduceLT, Nat.reduceAdd, B_0, B_W0 hb, B_30, B_S30, mTR, aTR, lTR, nTR, nI_leI, h9, le_60, h60, nGet_1, nGet_8, f1, f8, eq_true g1, g2, nI_succ', ih]
    · have hbe : bst st lc lt m i t = t := by
        unfold bst
        rw [if_neg (fun q => g1 q.1)]
      rw [hbe] at ih ⊢
      simp (disch := first | omega | assumption | exact Nat.le_of_ble_eq_true rfl) only [m132, e132_32, e132_33, e132_36, e132_39, e132_42, e132_45, e132_46, e132_48, e132_51, e132_52, e132_55, e132_58, e132_59, e132_60, e132_63, e132_64, e132_67, e132_68, e132_71, e132_74, e132_75, e132_77, e132_80, e132_83, e132_84, e132_87, e132_88, e132_89, e132_92, e132_95, e132_96, e132_97, e132_100, e132_101, e132_104, e132_107, e132_108, e132_110, e132_113, e132_116i, e132_116n, e132_116r, e132_117i, e132_117n, e132_117r, e132_120, Bool.false_eq_true, Bool.true_eq_false, gfK, pfK, lnK, isC, alK_n, asK_n, List.getElem?_cons_zero, List.getElem?_cons_succ, List.set_cons_zero, List.set_cons_succ, List.length_cons, List.length_nil, ↓reduceIte, if_true, if_false, eq_self, and_true, true_and, and_self, Option.bind_some, Option.bind_none, Option.toList_some, Option.toList_none, List.cons_append, List.nil_append, mset_at, mset_ne, mset_2, mset_mset, Nat.reduceLT, Nat.reduceAdd, B_0, B_W0 hb, B_30, B_S30, mTR, aTR, lTR, nTR, nI_leI, h9, le_60, h60, nGet_1, f1, g1, nI_succ', ih]
theorem mbeside_loop (hC : MW A lc lt) (hW : WF lc lt) (c5 : nr ≤ 60) (s3 : st 3 = nI nr) (jn : JBn ar lr nr nf st) : ∀ (n i t : Nat) (l4 l5 l6 : Option Value), i + n = nr → t < 16 → ev 212 31 [some (.ref 60), some (.int (nI m)), some (.int (nI t)), some (.int (nI i)), l4, l5, l6] [] (MS b u v A τ st) = some (some (.int (nI (fold (bst st lc lt m) i n t))), (MS b u v A τ st))
  | 0, i, t, l4, l5, l6, hi, ht => by
    have : i = nr := by omega
    subst this
    rw [e212_31]
    simp (disch := first | omega | assumption | exact Nat.le_of_ble_eq_true rfl) only [m212, e212_32, e212_33, e212_36, e212_37, e212_38, e212_41, e212_44, e212_46, e212_47, e212_48, e212_49i, e212_49n, e212_49r, e212_51, e212_52, e212_55, e212_57, e212_58, e212_59, e212_60, e212_61, e212_64, e212_65, e212_68, e212_70, e212_72, e212_73, e212_74, e212_77, e212_78, e212_79, e212_80, e212_83, e212_85, e212_86, e212_87, e212_88, e212_91i, e212_91n, e212_91r, e212_93, e212_94, e212_97, e212_99, e212_101, e212_102, e212_103, e212_105, e212_108, e212_109, e212_112, e212_114, e212_116, e212_117, e212_118, e212_121, e212_123, e212_124, e212_125i, e212_125n, e212_125r, e212_127, e212_129, e212_132, e212_133, e212_136, e212_137, e212_138, e212_139, e212_142, e212_144, e212_145, e212_146, e212_147, e212_149, e212_152i, e212_152n, e212_152r, e212_153i, e212_153n, e212_153r, e212_156, e212_159, e212_160, Bool.false_eq_true, Bool.true_eq_false, gfK, pfK, lnK, isC, alK_n, asK_n, List.getElem?_cons_zero, List.getElem?_cons_succ, List.set_cons_zero, List.set_cons_succ, List.length_cons, List.length_nil, ↓reduceIte, if_true, if_false, eq_self, and_true, true_and, and_self, Option.bind_some, Option.bind_none, Option.toList_some, Option.toList_none, List.cons_append, List.nil_append, mset_at, mset_ne, mset_2, mset_mset, Nat.reduceLT, Nat.reduceAdd, M_60, M_70, alK_l3, s3, nI_leI, Nat.le_refl, fold]
  | n + 1, i, t, l4, l5, l6, hi, ht => by
    have hi' : i < nr := by omega
    have h9 : ¬ nr ≤ i := by omega
    have hbl := bst_lt (m := m) hW jn hi' ht
    obtain ⟨ec, ⟨m', hm', e1⟩, ⟨d, hd, e2⟩, ⟨d3, hd3, e3⟩, ⟨t4, ht4, e4⟩, ⟨l6', hl6, e6⟩, e8, ⟨l, hl, e9⟩⟩ := jn i hi'
    have hl4 := (hW (t * 8 + d) (by omega)).1
    have hlo : evM 140 [.ref 60, .int (nI t), .int (nI d)] (MS b u v A τ st) = some (some (.int (nI (lc (t * 8 + d)))), (MS b u v A τ st)) := V_lots (MW_up (by omega) hC) ht hd
    rw [show fold (bst st lc lt m) i (n + 1) t = fold (bst st lc lt m) (i + 1) n (bst st lc lt m i t) from rfl]
    have ih := fun l4 l5 l6 => mbeside_loop hC hW c5 s3 jn n (i + 1) (bst st lc lt m i t) l4 l5 l6 (by omega) hbl
    rw [e212_31]
    by_cases g1 : st (205 + 10 * i + 1) = nI m
    · by_cases g2 : st (205 + 10 * i + 8) = 0
      · have hbe : bst st lc lt m i t = ledS lc lt t d l := by
          unfold bst
          rw [if_pos ⟨g1, g2⟩, e2, e9, nI_clamp (by omega), nI_clamp (by omega)]
        rw [hbe] at ih ⊢
        by_cases h0 : lc (t * 8 + d) = 0
        · have hz : (nI (lc (t * 8 + d)) = 0) = True := eq_true (by rw [h0]; rfl)
          rw [show ledS lc lt t d l = t from by unfold ledS; rw [if_pos h0]] at ih ⊢
          simp (disch := first | omega | assumption | exact Nat.le_of_ble_eq_true rfl) only [m212, e212_32, e212_33, e212_36, e212_37, e212_38, e212_41, e212_44, e212_46, e212_47, e212_48, e212_49i, e212_49n, e212_49r, e212_51, e212_52, e212_55, e212_57, e212_58, e212_59, e212_60, e212_61, e212_64, e212_65, e212_68, e212_70, e212_72, e212_73, e212_74, e212_77, e212_78, e212_79, e212_80, e212_83, e212_85, e212_86, e212_87, e212_88, e212_91i, e212_91n, e212_91r, e212_93, e212_94, e212_97, e212_99, e212_101, e212_102, e212_103, e212_105, e212_108, e212_109, e212_112, e212_114, e212_116, e212_117, e212_118, e212_121, e212_123, e212_124, e212_125i, e212_125n, e212_125r, e212_127, e212_129, e212_132, e212_133, e212_136, e212_137, e212_138, e212_139, e212_142, e212_144, e212_145, e212_146, e212_147, e212_149, e212_152i, e212_152n, e212_152r, e212_153i, e212_153n, e212_153r, e212_156, Bool.false_eq_true, Bool.true_eq_false, gfK, pfK, lnK, isC, alK_n, asK_n, List.getElem?_cons_zero, List.getElem?_cons_succ, List.set_cons_zero, List.set_cons_succ, List.length_cons, List.length_nil, ↓reduceIte, if_true, if_false, eq_self, and_true, true_and, and_self, Option.bind_some, Option.bind_none, Option.toList_some, Option.toList_none, List.cons_append, List.nil_append, mset_at, mset_ne, mset_2, mset_mset, Nat.reduceLT, Nat.reduceAdd, M_60, M_70, alK_l3, s3, nI_leI, h9, lm_10, la_205, ra_1, ra_2, ra_8, ra_9, eq_true g1, eq_true g2, e2, e9, hlo, hz, show lc (t * 8 + d) ≤ l from by omega, nI_succ', ih]
        · have hz : (nI (lc (t * 8 + d)) = 0) = False := eq_false (fun g => h0 (nI_inj (by omega) (by omega) g))
          by_cases h1 : l < lc (t * 8 + d)
          · have hlot : evM 143 [.ref 60, .int (nI t), .int (nI d), .int (nI l)] (MS b u v A τ st) = some (some (.int (nI (lt (t * 8 + d) l))), (MS b u v A τ st)) := V_lotOf (MW_up (by omega) hC) hW ht hd h1
            rw [show ledS lc lt t d l = lt (t * 8 + d) l from by unfold ledS; rw [if_neg h0, if_pos h1]] at ih ⊢
            simp (disch := first | omega | assumption | exact Nat.le_of_ble_eq_true rfl) only [m212, e212_32, e212_33, e212_36, e212_37, e212_38, e212_41, e212_44, e212_46, e212_47, e212_48, e212_49i, e212_49n, e212_49r, e212_51, e212_52, e212_55, e212_57, e212_58, e212_59, e212_60, e212_61, e212_64, e212_65, e212_68, e212_70, e212_72, e212_73, e212_74, e212_77, e212_78, e212_79, e212_80, e212_83, e212_85, e212_86, e212_87, e212_88, e212_91i, e212_91n, e212_91r, e212_93, e212_94, e212_97, e212_99, e212_101, e212_102, e212_103, e212_105, e212_108, e212_109, e212_112, e212_114, e212_116, e212_117, e212_118, e212_121, e212_123, e212_124, e212_125i, e212_125n, e212_125r, e212_127, e212_129, e212_132, e212_133, e212_136, e212_137, e212_138, e212_139, e212_142, e212_144, e212_145, e212_146, e212_147, e212_149, e212_152i, e212_152n, e212_152r, e212_153i, e212_153n, e212_153r, e212_156, Bool.false_eq_true, Bool.true_eq_false, gfK, pfK, lnK, isC, alK_n, asK_n, List.getElem?_cons_zero, List.getElem?_cons_succ, List.set_cons_zero, List.set_cons_succ, List.length_cons, List.length_nil, ↓reduceIte, if_true, if_false, eq_self, and_true, true_and, and_self, Option.bind_some, Option.bind_none, Option.toList_some, Option.toList_none, List.cons_append, List.nil_append, mset_at, mset_ne, mset_2, mset_mset, Nat.reduceLT, Nat.reduceAdd, M_60, M_70, alK_l3, s3, nI_leI, h9, lm_10, la_205, ra_1, ra_2, ra_8, ra_9, eq_true g1, eq_true g2, e2, e9, hlo, hz, show ¬ lc (t * 8 + d) ≤ l from by omega, hlot, nI_succ', ih]
          · have e : nI (lc (t * 8 + d)) - 1 = nI (lc (t * 8 + d) - 1) := by
              obtain ⟨k, hk⟩ : ∃ k, lc (t * 8 + d) = k + 1 := ⟨lc (t * 8 + d) - 1, by omega⟩
              rw [hk]
              exact nI_prd k
            have hlot : evM 143 [.ref 60, .int (nI t), .int (nI d), .int (nI (lc (t * 8 + d) - 1))] (MS b u v A τ st) = some (some (.int (nI (lt (t * 8 + d) (lc (t * 8 + d) - 1)))), (MS b u v A τ st)) := V_lotOf (MW_up (by omega) hC) hW ht hd (by omega)
            rw [show ledS lc lt t d l = lt (t * 8 + d) (lc (t * 8 + d) - 1) from by unfold ledS; rw [if_neg h0, if_neg h1]] at ih ⊢
            simp (disch := first | omega | assumption | exact Nat.le_of_ble_eq_true rfl) only [m212, e212_32, e212_33, e212_36, e212_37, e212_38, e212_41, e212_44, e212_46, e212_47, e212_48, e212_49i, e212_49n, e212_49r, e212_51, e212_52, e212_55, e212_57, e212_58, e212_59, e212_60, e212_61, e212_64, e212_65, e212_68, e212_70, e212_72, e212_73, e212_74, e212_77, e212_78, e212_79, e212_80, e212_83, e212_85, e212_86, e212_87, e212_88, e212_91i, e212_91n, e212_91r, e212_93, e212_94, e212_97, e212_99, e212_101, e212_102, e212_103, e212_105, e212_108, e212_109, e212_112, e212_114, e212_116, e212_117, e212_118, e212_121, e212_123, e212_124, e212_125i, e212_125n, e212_125r, e212_127, e212_129, e212_132, e212_133, e212_136, e212_137, e212_138, e212_139, e212_142, e212_144, e212_145, e212_146, e212_147, e212_149, e212_152i, e212_152n, e212_152r, e212_153i, e212_153n, e212_153r, e212_156, Bool.false_eq_true, Bool.true_eq_false, gfK, pfK, lnK, isC, alK_n, asK_n, List.getElem?_cons_zero, List.getElem?_cons_succ, List.set_cons_zero, List.set_cons_succ, List.length_cons, List.length_nil, ↓reduceIte, if_true, if_false, eq_self, and_true, true_and, and_self, Option.bind_some, Option.bind_none, Option.toList_some, Option.toList_none, List.cons_append, List.nil_append, mset_at, mset_ne, mset_2, mset_mset, Nat.reduceLT, Nat.reduceAdd, M_60, M_70, alK_l3, s3, nI_leI, h9, lm_10, la_205, ra_1, ra_2, ra_8, ra_9, eq_true g1, eq_true g2, e2, e9, hlo, hz, show lc (t * 8 + d) ≤ l from by omega, e, hlot, nI_succ', ih]
      · have hbe : bst st lc lt m i t = t := by
          unfold bst
          rw [if_neg (fun q => g2 q.2)]
        rw [hbe] at ih ⊢
        simp (disch := first | omega | assumption | exact Nat.le_of_ble_eq_true rfl) only [m212, e212_32, e212_33, e212_36, e212_37, e212_38, e212_41, e212_44, e212_46, e212_47, e212_48, e212_49i, e212_49n, e212_49r, e212_51, e212_52, e212_55, e212_57, e212_58, e212_59, e212_60, e212_61, e212_64, e212_65, e212_68, e212_70, e212_72, e212_73, e212_74, e212_77, e212_78, e212_79, e212_80, e212_83, e212_85, e212_86, e212_87, e212_88, e212_91i, e212_91n, e212_91r, e212_93, e212_94, e212_97, e212_99, e212_101, e212_102, e212_103, e212_105, e212_108, e212_109, e212_112, e212_114, e212_116, e212_117, e212_118, e212_121, e212_123, e212_124, e212_125i, e212_125n, e212_125r, e212_127, e212_129, e212_132, e212_133, e212_136, e212_137, e212_138, e212_139, e212_142, e212_144, e212_145, e212_146, e212_147, e212_149, e212_152i, e212_152n, e212_152r, e212_153i, e212_153n, e212_153r, e212_156, Bool.false_eq_true, Bool.true_eq_false, gfK, pfK, lnK, isC, alK_n, asK_n, List.getElem?_cons_zero, List.getElem?_cons_succ, List.set_cons_zero, List.set_cons_succ, List.length_cons, List.length_nil, ↓reduceIte, if_true, if_false, eq_self, and_true, true_and, and_self, Option.bind_some, Option.bind_none, Option.toList_some, Option.toList_none, List.cons_append, List.nil_append, mset_at, mset_ne, mset_2, mset_mset, Nat.reduceLT, Nat.reduceAdd, M_60, M_70, alK_l3, s3, nI_leI, h9, lm_10, la_205, ra_1, ra_8, eq_true g1, g2, nI_succ', ih]
    · have hbe : bst st lc lt m i t = t := by
        unfold bst
        rw [if_neg (fun q => g1 q.1)]
      rw [hbe] at ih ⊢
      simp (disch := first | omega | assumption | exact Nat.le_of_ble_eq_true rfl) only [m212, e212_32, e212_33, e212_36, e212_37, e212_38, e212_41, e212_44, e212_46, e212_47, e212_48, e212_49i, e212_49n, e212_49r, e212_51, e212_52, e212_55, e212_57, e212_58, e212_59, e212_60, e212_61, e212_64, e212_65, e212_68, e212_70, e212_72, e212_73, e212_74, e212_77, e212_78, e212_79, e212_80, e212_83, e212_85, e212_86, e212_87, e212_88, e212_91i, e212_91n, e212_91r, e212_93, e212_94, e212_97, e212_99, e212_101, e212_102, e212_103, e212_105, e212_108, e212_109, e212_112, e212_114, e212_116, e212_117, e212_118, e212_121, e212_123, e212_124, e212_125i, e212_125n, e212_125r, e212_127, e212_129, e212_132, e212_133, e212_136, e212_137, e212_138, e212_139, e212_142, e212_144, e212_145, e212_146, e212_147, e212_149, e212_152i, e212_152n, e212_152r, e212_153i, e212_153n, e212_153r, e212_156, Bool.false_eq_true, Bool.true_eq_false, gfK, pfK, lnK, isC, alK_n, asK_n, List.getElem?_cons_zero, List.getElem?_cons_succ, List.set_cons_zero, List.set_cons_succ, List.length_cons, List.length_nil, ↓reduceIte, if_true, if_false, eq_self, and_true, true_and, and_self, Option.bind_some, Option.bind_none, Option.toList_some, Option.toList_none, List.cons_append, List.nil_append, mset_at, mset_ne, mset_2, mset_mset, Nat.reduceLT, Nat.reduceAdd, M_60, M_70, alK_l3, s3, nI_leI, h9, lm_10, la_205, ra_1, g1, nI_succ', ih]
theorem c_beside (hJ : JB tick mr mf ar af lr lf nr nf st) (hb : b = 8 ∨ b = 19) (lc : Nat → Nat) (lt : Nat → Nat → Nat) (x : Int32) : ∃ r, (∀ u v A τ, WR b A lc lt → evM 132 [.ref 0, .int x] (BS b u v A τ tick kept mr mf ar af lr lf nr nf) = some (some (.int r), (BS b u v A τ tick kept mr mf ar af lr lf nr nf))) ∧ (∀ u v A τ, A 60 0 = 0 → WR b A lc lt → evM 212 [.ref 60, .int x] (MS b u v A τ st) = some (some (.int r), (MS b u v A τ st))) := by
  obtain ⟨⟨c1, c2, c3, c4, c5, s0, s1, s2, s3, s4⟩, jm, ja, jl, jn⟩ := id hJ
  rcases idx x (n := ar) (by omega) with hx | ⟨m, hm, rfl⟩
  · refine ⟨-1, fun u v A τ _ => ?_, fun u v A τ h0 _ => ?_⟩
    · simp (disch := first | omega | assumption | exact Nat.le_of_ble_eq_true rfl) only [m132, e132_0, e132_1, e132_4, e132_7, e132_8, e132_11, e132_14, e132_15, Bool.false_eq_true, Bool.true_eq_false, gfK, pfK, lnK, isC, alK_n, asK_n, List.getElem?_cons_zero, List.getElem?_cons_succ, List.set_cons_zero, List.set_cons_succ, List.length_cons, List.length_nil, ↓reduceIte, if_true, if_false, eq_self, and_true, true_and, and_self, Option.bind_some, Option.bind_none, Option.toList_some, Option.toList_none, List.cons_append, List.nil_append, mset_at, mset_ne, mset_2, mset_mset, Nat.reduceLT, Nat.reduceAdd, B_0, B_30, B_S30, mTR, aTR, lTR, nTR, aHasN c3 hx]
    · simp (disch := first | omega | assumption | exact Nat.le_of_ble_eq_true rfl) only [m212, e212_0, e212_1, e212_2, e212_5, e212_6, e212_7, e212_10, e212_13, e212_14, Bool.false_eq_true, Bool.true_eq_false, gfK, pfK, lnK, isC, alK_n, asK_n, List.getElem?_cons_zero, List.getElem?_cons_succ, List.set_cons_zero, List.set_cons_succ, List.length_cons, List.length_nil, ↓reduceIte, if_true, if_false, eq_self, and_true, true_and, and_self, Option.bind_some, Option.bind_none, Option.toList_some, Option.toList_none, List.cons_append, List.nil_append, mset_at, mset_ne, mset_2, mset_mset, Nat.reduceLT, Nat.reduceAdd, M_60, M_thr h0, M_isMachine s1 (by omega), not_in hx]
  · have hin := is_in hm (by omega)
    obtain ⟨⟨e0, e1, e2, e3, e4⟩, f1, f2, ⟨t, ht, ft⟩, f4⟩ := ja m hm
    have e4 := e4.trans ft
    refine ⟨nI (fold (bst st lc lt m) 0 nr t), fun u v A τ hR => ?_, fun u v A τ h0 hR => ?_⟩
    · have h := beside_loop (b := b) (u := u) (v := v) (τ := τ) (m := m) (tick := tick) (kept := kept) (mr := mr) (mf := mf) (af := af) (lf := lf) hb hR.2.1 hR.1 c5 jn nr 0 t (by omega) ht
      rw [← lit_0] at h
      simp (disch := first | omega | assumption | exact Nat.le_of_ble_eq_true rfl) only [m132, e132_0, e132_1, e132_4, e132_7, e132_8, e132_11, e132_14, e132_15, e132_16, e132_17, e132_20, e132_23, e132_24, e132_25, e132_28i, e132_28n, e132_28r, e132_29, e132_30i, e132_30n, e132_30r, Bool.false_eq_true, Bool.true_eq_false, gfK, pfK, lnK, isC, alK_n, asK_n, List.getElem?_cons_zero, List.getElem?_cons_succ, List.set_cons_zero, List.set_cons_succ, List.length_cons, List.length_nil, ↓reduceIte, if_true, if_false, eq_self, and_true, true_and, and_self, Option.bind_some, Option.bind_none, Option.toList_some, Option.toList_none, List.cons_append, List.nil_append, mset_at, mset_ne, mset_2, mset_mset, Nat.reduceLT, Nat.reduceAdd, B_0, B_30, B_S30, mTR, aTR, lTR, nTR, aHas, nz1, aGet_4, e4, h]
    · have h := mbeside_loop (b := b) (u := u) (v := v) (τ := τ) (m := m) hR.2.2.1 hR.1 c5 s3 jn nr 0 t none none none (by omega) ht
      rw [← lit_0] at h
      simp (disch := first | omega | assumption | exact Nat.le_of_ble_eq_true rfl) only [m212, e212_0, e212_1, e212_2, e212_5, e212_6, e212_7, e212_10, e212_13, e212_14, e212_15, e212_16, e212_19, e212_21, e212_22, e212_23, e212_24, e212_25, e212_26, e212_27, e212_28i, e212_28n, e212_28r, e212_29, e212_30i, e212_30n, e212_30r, Bool.false_eq_true, Bool.true_eq_false, gfK, pfK, lnK, isC, alK_n, asK_n, List.getElem?_cons_zero, List.getElem?_cons_succ, List.set_cons_zero, List.set_cons_succ, List.length_cons, List.length_nil, ↓reduceIte, if_true, if_false, eq_self, and_true, true_and, and_self, Option.bind_some, Option.bind_none, Option.toList_some, Option.toList_none, List.cons_append, List.nil_append, mset_at, mset_ne, mset_2, mset_mset, Nat.reduceLT, Nat.reduceAdd, M_60, M_70, M_thr h0, M_isMachine s1 (by omega), hin, nz1, lm_4, la_29, ra_2, ft, h]
/-- sums laid on both tables along a chain -/
theorem JBm_add {a : Int32} (hm : mr ≤ 8) : ∀ (L : List Nat) (mf s : Nat → Int32), (∀ j, j ∈ L → j < mr) → JBm mr mf s → JBm mr (addL 3 2 a L mf) (addM 5 3 a L s)
  | [], mf, s, _, h => h
  | j :: L, mf, s, hL, h => by
    have hj := hL j (List.mem_cons_self ..)
    have e := (h.1 j hj).2.2
    show JBm mr (addL 3 2 a L (upd mf (j * 3 + 2) (mf (j * 3 + 2) + a))) (addM 5 3 a L (upd s (5 + 3 * j + 2) (s (5 + 3 * j + 2) + a)))
    rw [e]
    exact JBm_add hm L _ _ (fun k hk => hL k (List.mem_cons_of_mem _ hk)) (JBm_upd hm hj (by omega) (by omega) h)
theorem addM_eq {p w : Nat} {a : Int32} {R : Nat → Prop} : ∀ (L : List Nat) (f g : Nat → Int32), (∀ j, j ∈ L → R (p + w * j + 2)) → (∀ i, R i → f i = g i) → ∀ i, R i → addM p w a L f i = addM p w a L g i
  | [], f, g, _, h, i, hi => h i hi
  | j :: L, f, g, hL, h, i, hi => by
    have hj := hL j (List.mem_cons_self ..)
    show addM p w a L (upd f (p + w * j + 2) (f (p + w * j + 2) + a)) i = addM p w a L (upd g (p + w * j + 2) (g (p + w * j + 2) + a)) i
    refine addM_eq L _ _ (fun k hk => hL k (List.mem_cons_of_mem _ hk)) (fun k hk => ?_) i hi
    rw [h _ hj]
    unfold upd
    rw [h k hk]
theorem R_kindOf (hk : ∀ d, d < 8 → A 58 d = nI (kd d)) (hd : d < 8) : evM 114 [.ref 0, .int (nI d)] (BS b u v A τ tick kept mr mf ar af lr lf nr nf) = some (some (.int (nI (kd d))), (BS b u v A τ tick kept mr mf ar af lr lf nr nf)) := by
  have h := hk d hd
  simp (disch := first | omega | assumption | exact Nat.le_of_ble_eq_true rfl) only [m114, e114_0, e114_1, e114_4, e114_7, e114_8, e114_11, e114_12, e114_13, e114_16, e114_17, Bool.false_eq_true, Bool.true_eq_false, gfK, pfK, lnK, isC, alK_n, asK_n, List.getElem?_cons_zero, List.getElem?_cons_succ, List.set_cons_zero, List.set_cons_succ, List.length_cons, List.length_nil, ↓reduceIte, if_true, if_false, eq_self, and_true, true_and, and_self, Option.bind_some, Option.bind_none, Option.toList_some, Option.toList_none, List.cons_append, List.nil_append, mset_at, mset_ne, mset_2, mset_mset, Nat.reduceLT, Nat.reduceAdd, R_isDoing hd, nz1, B_0, B_58, h]
theorem lastF_val {P : Nat → Bool} : ∀ n, (lastF P n = -9 ∧ ∀ k, k < n → P k = false) ∨ ∃ i, i < n ∧ lastF P n = nI i ∧ P i = true ∧ ∀ k, i < k → k < n → P k = false
  | 0 => Or.inl ⟨rfl, fun k hk => absurd hk (Nat.not_lt_zero k)⟩
  | n + 1 => by
    rw [lastF]
    by_cases h : P n = true
    · rw [if_pos h]
      exact Or.inr ⟨n, by omega, rfl, h, fun k h1 h2 => by omega⟩
    · rw [if_neg h]
      rcases lastF_val (P := P) n with ⟨h1, h2⟩ | ⟨i, h1, h2, h3, h4⟩
      · refine Or.inl ⟨h1, fun k hk => ?_⟩
        by_cases e : k = n
        · rw [e]; exact Bool.eq_false_iff.2 h
        · exact h2 k (by omega)
      · refine Or.inr ⟨i, by omega, h2, h3, fun k g1 g2 => ?_⟩
        by_cases e : k = n
        · rw [e]; exact Bool.eq_false_iff.2 h
        · exact h4 k g1 (by omega)
theorem am1 (n : Nat) : nI n + -1 = nI n - 1 := (Int32.sub_eq_add_neg ..).symm
theorem m0m1 : nI 0 - 1 = -1 := by decide
theorem mundo_none (c5 : nr ≤ 60) : ∀ (n : Nat), n ≤ nr → (∀ k, k < n → ¬ st (205 + 10 * k + 1) = x) → ev 196 24 [some (.ref 60), some (.int x), some (.int (nI n - 1)), l3] [] (MS b u v A τ st) = some (some (.int (-2)), (MS b u v A τ st))
  | 0, hn, h => by
    rw [e196_24]
    simp (disch := first | omega | assumption | exact Nat.le_of_ble_eq_true rfl) only [m196, e196_25, e196_28, e196_29, e196_32, e196_35, e196_37, e196_38, e196_39, e196_40, e196_41, e196_42, e196_43, e196_44, e196_47i, e196_47n, e196_47r, e196_50, e196_53, e196_54, e196_57, e196_59, Bool.false_eq_true, Bool.true_eq_false, gfK, pfK, lnK, isC, alK_n, asK_n, List.getElem?_cons_zero, List.getElem?_cons_succ, List.set_cons_zero, List.set_cons_succ, List.length_cons, List.length_nil, ↓reduceIte, if_true, if_false, eq_self, and_true, true_and, and_self, Option.bind_some, Option.bind_none, Option.toList_some, Option.toList_none, List.cons_append, List.nil_append, mset_at, mset_ne, mset_2, mset_mset, Nat.reduceLT, Nat.reduceAdd, m0m1, show (-1 : Int32) < 0 from by decide, show ¬ (0 : Int32) ≤ -1 from by decide]
  | n + 1, hn, h => by
    have ih := mundo_none c5 n (by omega) (fun k hk => h k (by omega))
    have h1 := h n (by omega)
    rw [e196_24]
    simp (disch := first | omega | assumption | exact Nat.le_of_ble_eq_true rfl) only [m196, e196_25, e196_28, e196_29, e196_32, e196_35, e196_37, e196_38, e196_39, e196_40, e196_41, e196_42, e196_43, e196_44, e196_47i, e196_47n, e196_47r, e196_50, Bool.false_eq_true, Bool.true_eq_false, gfK, pfK, lnK, isC, alK_n, asK_n, List.getElem?_cons_zero, List.getElem?_cons_succ, List.set_cons_zero, List.set_cons_succ, List.length_cons, List.length_nil, ↓reduceIte, if_true, if_false, eq_self, and_true, true_and, and_self, Option.bind_some, Option.bind_none, Option.toList_some, Option.toList_none, List.cons_append, List.nil_append, mset_at, mset_ne, mset_2, mset_mset, Nat.reduceLT, Nat.reduceAdd, nI_prd, nI_not_neg, M_60, M_70, lm_10, la_205, ra_1, h1, am1, ih]
theorem mundo_at (c5 : nr ≤ 60) {i : Nat} (h0 : st (205 + 10 * i + 1) = x) : ∀ (n : Nat), i < n → n ≤ nr → (∀ k, i < k → k < n → ¬ st (205 + 10 * k + 1) = x) → ev 196 24 [some (.ref 60), some (.int x), some (.int (nI n - 1)), l3] [] (MS b u v A τ st) = ev 196 53 [some (.ref 60), some (.int x), some (.int (nI i)), l3] [] (MS b u v A τ st)
  | 0, hi, hn, h => absurd hi (Nat.not_lt_zero i)
  | n + 1, hi, hn, h => by
    rw [e196_24]
    by_cases e : n = i
    · subst e
      simp (disch := first | omega | assumption | exact Nat.le_of_ble_eq_true rfl) only [m196, e196_25, e196_28, e196_29, e196_32, e196_35, e196_37, e196_38, e196_39, e196_40, e196_41, e196_42, e196_43, e196_44, e196_47i, e196_47n, e196_47r, e196_50, Bool.false_eq_true, Bool.true_eq_false, gfK, pfK, lnK, isC, alK_n, asK_n, List.getElem?_cons_zero, List.getElem?_cons_succ, List.set_cons_zero, List.set_cons_succ, List.length_cons, List.length_nil, ↓reduceIte, if_true, if_false, eq_self, and_true, true_and, and_self, Option.bind_some, Option.bind_none, Option.toList_some, Option.toList_none, List.cons_append, List.nil_append, mset_at, mset_ne, mset_2, mset_mset, Nat.reduceLT, Nat.reduceAdd, nI_prd, nI_not_neg, M_60, M_70, lm_10, la_205, ra_1, eq_true h0]
    · have ih := mundo_at c5 h0 n (by omega) (by omega) (fun k h1 h2 => h k h1 (by omega))
      have h1 := h n (by omega) (by omega)
      simp (disch := first | omega | assumption | exact Nat.le_of_ble_eq_true rfl) only [m196, e196_25, e196_28, e196_29, e196_32, e196_35, e196_37, e196_38, e196_39, e196_40, e196_41, e196_42, e196_43, e196_44, e196_47i, e196_47n, e196_47r, e196_50, Bool.false_eq_true, Bool.true_eq_false, gfK, pfK, lnK, isC, alK_n, asK_n, List.getElem?_cons_zero, List.getElem?_cons_succ, List.set_cons_zero, List.set_cons_succ, List.length_cons, List.length_nil, ↓reduceIte, if_true, if_false, eq_self, and_true, true_and, and_self, Option.bind_some, Option.bind_none, Option.toList_some, Option.toList_none, List.cons_append, List.nil_append, mset_at, mset_ne, mset_2, mset_mset, Nat.reduceLT, Nat.reduceAdd, nI_prd, nI_not_neg, M_60, M_70, lm_10, la_205, ra_1, h1, am1, ih]
end BESIDE
