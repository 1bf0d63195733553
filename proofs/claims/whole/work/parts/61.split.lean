/-! THE CLASS'S TOKENS: all of a text's; walked by place. -/
def TKs (A A0 : Nat → Nat → Int32) (n : Nat) (t : Nat → Nat) (i p : Nat) : Prop := A 4 0 = nI i ∧ A 4 1 = 0 ∧ (∀ j, j < i → A 5 j = nI (tS t n (posE t n j)) ∧ A 6 j = nI (cV t n (posE t n j)) ∧ A 7 j = nI (posE t n j)) ∧ sk t n p = posE t n i ∧ i ≤ p ∧ ∀ k, k < 4 ∨ 7 < k → A k = A0 k
def TK (A : Nat → Nat → Int32) (n : Nat) (t : Nat → Nat) (c : Nat) : Prop := A 4 0 = nI (c + 1) ∧ c ≤ 600 ∧ posE t n c = n ∧ ∀ j, j ≤ c → A 5 j = nI (tS t n (posE t n j)) ∧ A 6 j = nI (cV t n (posE t n j)) ∧ A 7 j = nI (posE t n j)
/-- the class stands at the token that begins at p -/
def CAt (A : Nat → Nat → Int32) (n : Nat) (t : Nat → Nat) (p : Nat) : Prop := ∃ c i, TK A n t c ∧ i ≤ c ∧ A 4 1 = nI i ∧ posE t n i = p
theorem CAt_of {A A' : Nat → Nat → Int32} {n : Nat} {t : Nat → Nat} {p : Nat} (h : ∀ k, 4 ≤ k → k ≤ 7 → A' k = A k) (hC : CAt A n t p) : CAt A' n t p := by
  obtain ⟨c, i, ⟨a, b, d, e⟩, f, g, q⟩ := hC
  refine ⟨c, i, ⟨?_, b, d, fun j hj => ?_⟩, f, ?_, q⟩
  · rw [h 4 (by omega) (by omega)]; exact a
  · rw [h 5 (by omega) (by omega), h 6 (by omega) (by omega), h 7 (by omega) (by omega)]; exact e j hj
  · rw [h 4 (by omega) (by omega)]; exact g
section XSPLIT
variable {b : Nat} {u v : Int64} {A A0 : Nat → Nat → Int32} {τ : Nat × Nat × Nat × (Nat → Int32)} {n : Nat} {t : Nat → Nat} {i j p e c k : Nat} {x y z : Int32} {σ : mS} {l2 l3 l4 l5 : Option Value}
theorem TKA_4 : TKA A c x y z 4 = fL [nI (c + 1), A 4 1] := by unfold TKA; simp (disch := omega) only [upd_at, upd_ne, up_at, up_ne]
theorem TKA_5 : TKA A c x y z 5 = upd (A 5) c x := by unfold TKA; simp (disch := omega) only [upd_at, upd_ne, up_at, up_ne]
theorem TKA_6 : TKA A c x y z 6 = upd (A 6) c y := by unfold TKA; simp (disch := omega) only [upd_at, upd_ne, up_at, up_ne]
theorem TKA_7 : TKA A c x y z 7 = upd (A 7) c z := by unfold TKA; simp (disch := omega) only [upd_at, upd_ne, up_at, up_ne]
theorem TKA_ne (h : k < 4 ∨ 7 < k) : TKA A c x y z k = A k := by unfold TKA; simp (disch := omega) only [upd_at, upd_ne, up_at, up_ne]
theorem TKs_add (hs : sp t n p = false) (hp : p < n) (h : TKs A A0 n t i p) : TKs (TKA A i (nI (tS t n p)) (nI (cV t n p)) (nI p)) A0 n t (i + 1) (ed t n p) := by
  obtain ⟨h1, h2, h3, h4, h5, h6⟩ := h
  rw [sk_id hs] at h4
  have hg := ed_gt (t := t) hp
  refine ⟨by rw [TKA_4]; rfl, by rw [TKA_4]; exact h2, fun j hj => ?_, ?_, by omega, fun k hk => by rw [TKA_ne hk]; exact h6 k hk⟩
  · rw [TKA_5, TKA_6, TKA_7]
    by_cases e : j = i
    · rw [e, upd_at, upd_at, upd_at, ← h4]
      exact ⟨rfl, rfl, rfl⟩
    · rw [upd_ne e, upd_ne e, upd_ne e]
      exact h3 j (by omega)
  · rw [posE, ← h4]
    rfl
theorem TKs_skip (hs : sp t n p = true) (hp : p < n) (h : TKs A A0 n t i p) : TKs A A0 n t i (p + 1) := by
  obtain ⟨h1, h2, h3, h4, h5, h6⟩ := h
  refine ⟨h1, h2, h3, ?_, by omega, h6⟩
  rw [← h4]
  exact (rn_t hs hp).symm
theorem x_split_loop (hT0 : TX A0 n t) : ∀ (f p i : Nat) (A : Nat → Nat → Int32) (l3 l4 : Option Value), n ≤ p + f → p ≤ n → TKs A A0 n t i p → ∃ A' c, ev 45 12 [some (.ref 4), some (.ref 1), some (.int (nI p)), l3, l4] [] (G b u v A τ) = some (none, G b u v A' τ) ∧ TK A' n t c ∧ A' 4 1 = 0 ∧ ∀ k, k < 4 ∨ 7 < k → A' k = A0 k
  | 0, p, i, A, l3, l4, hf, hp, hK => by
    have : p = n := by omega
    subst this
    obtain ⟨h1, h2, h3, h4, h5, h6⟩ := hK
    have h9 := hT0.1
    have e1 : A 1 0 = nI p := by rw [h6 1 (by omega)]; exact hT0.2.1
    rw [sk_n] at h4
    have c0 : cV t p p = 0 := by
      unfold cV
      rw [if_neg (by rw [dg_n p (Nat.le_refl _)]; exact Bool.false_ne_true), if_neg (fun q => by rw [lr_n p (Nat.le_refl _)] at q; exact Bool.false_ne_true q.1)]
    refine ⟨TKA A i 0 0 (nI p), i, ?_, ⟨?_, by omega, h4.symm, fun j hj => ?_⟩, ?_, fun k hk => ?_⟩
    · rw [e45_12]
      simp (disch := first | omega | assumption | exact Nat.le_of_ble_eq_true rfl) only [m45, e45_0, e45_1, e45_2, e45_5, e45_6, e45_7, e45_10, e45_11i, e45_11n, e45_11r, e45_13, e45_14, e45_17, e45_20, e45_21, e45_22, e45_25, e45_26, e45_27, e45_28, e45_31i, e45_31n, e45_31r, e45_32, e45_33, e45_34, e45_37i, e45_37n, e45_37r, e45_39, e45_41, e45_44, e45_47, e45_48, e45_49, e45_50, e45_51, e45_54, e45_57, e45_59, e45_62, e45_65, e45_66, e45_67, e45_68, e45_69, e45_72, e45_75, e45_77, e45_79, e45_82, e45_83, e45_85, e45_87, e45_90, e45_92, e45_95, e45_97, e45_99, e45_102, e45_104, e45_107, e45_109, e45_110, e45_111, e45_114, e45_115i, e45_115n, e45_115r, e45_116, e45_119, e45_120, e45_121, e45_122, e45_123, e45_126, e45_129, Bool.false_eq_true, Bool.true_eq_false, gfK, pfK, lnK, isC, alK_n, asK_n, List.getElem?_cons_zero, List.getElem?_cons_succ, List.set_cons_zero, List.set_cons_succ, List.length_cons, List.length_nil, ↓reduceIte, if_true, if_false, eq_self, and_true, true_and, and_self, Option.bind_some, Option.bind_none, Option.toList_some, Option.toList_none, List.cons_append, List.nil_append, mset_at, mset_ne, mset_2, mset_mset, Nat.reduceLT, Nat.reduceAdd, G_1, G_4, e1, nI_leI, Nat.le_refl, x_addToken h1 (show i ≤ 600 by omega)]
    · rw [TKA_4]; rfl
    · rw [TKA_5, TKA_6, TKA_7]
      by_cases e : j = i
      · rw [e, upd_at, upd_at, upd_at, ← h4, tS_n, c0]
        exact ⟨rfl, rfl, rfl⟩
      · rw [upd_ne e, upd_ne e, upd_ne e]
        exact h3 j (by omega)
    · rw [TKA_4]
      exact h2
    · rw [TKA_ne hk]
      exact h6 k hk
  | f + 1, p, i, A, l3, l4, hf, hp, hK => by
    by_cases hn : n ≤ p
    · exact x_split_loop hT0 0 p i A l3 l4 (by omega) hp hK
    · have hpn : p < n := by omega
      have hK' := hK
      obtain ⟨h1, h2, h3, h4, h5, h6⟩ := hK'
      have h9 := hT0.1
      have hT : TX A n t := TX_of (fun k hk => h6 k (by omega)) (by rw [h6 60 (by omega)]) hT0
      have ht := hT.2.2.2.1
      have e1 : A 1 0 = nI n := hT.2.1
      have eL := ed_le (t := t) hp
      have eG := ed_gt (t := t) hpn
      have hmax : (if nI (edE t n p) < nI (p + 1) then nI (p + 1) else nI (edE t n p)) = nI (ed t n p) := by
        have h8 := edE_ed (t := t) hpn
        have h7 : edE t n p ≤ n := by omega
        by_cases g : edE t n p < p + 1
        · rw [if_pos ((nI_ltI (by omega) (by omega)).2 g)]
          congr 1
          omega
        · rw [if_neg (fun q => g ((nI_ltI (by omega) (by omega)).1 q))]
          congr 1
          omega
      have hb := byA_lt (t := t) (n := n) (i := p) hpn
      have htp := ht p
      by_cases hd : dg t n p = true
      · have hs : sp t n p = false := decide_eq_false (by have := dg_t.1 hd; omega)
        obtain ⟨A', c, k1, k2, k3, k4⟩ := x_split_loop hT0 f (ed t n p) (i + 1) _ (some (.int (nI (ed t n p)))) (some (.int (byA t n p))) (by omega) eL (TKs_add hs hpn hK)
        refine ⟨A', c, ?_, k2, k3, k4⟩
        have hN := x_addNumber (b := b) (u := u) (v := v) (τ := τ) hT eG eL (fun j a b => ed_dg hd a b) h1 (by omega)
        rw [show (if (t p = 48 ∧ p + 1 < ed t n p) ∨ 15 < mvl t p (ed t n p - p) then 9 else 1) = tS t n p from by unfold tS; rw [if_pos hpn, if_pos hd], show cvl t p (ed t n p - p) = cV t n p from by unfold cV; rw [if_pos hd]] at hN
        rw [e45_12]
        simp (disch := first | omega | assumption | exact Nat.le_of_ble_eq_true rfl) only [m45, e45_0, e45_1, e45_2, e45_5, e45_6, e45_7, e45_10, e45_11i, e45_11n, e45_11r, e45_13, e45_14, e45_17, e45_20, e45_21, e45_22, e45_25, e45_26, e45_27, e45_28, e45_31i, e45_31n, e45_31r, e45_32, e45_33, e45_34, e45_37i, e45_37n, e45_37r, e45_39, e45_41, e45_44, e45_47, e45_48, e45_49, e45_50, e45_51, e45_54, e45_57, e45_59, e45_62, e45_65, e45_66, e45_67, e45_68, e45_69, e45_72, e45_75, e45_77, e45_79, e45_82, e45_83, e45_85, e45_87, e45_90, e45_92, e45_95, e45_97, e45_99, e45_102, e45_104, e45_107, e45_109, e45_110, e45_111, e45_114, e45_115i, e45_115n, e45_115r, e45_116, e45_119, e45_120, e45_121, e45_122, e45_123, e45_126, e45_129, Bool.false_eq_true, Bool.true_eq_false, gfK, pfK, lnK, isC, alK_n, asK_n, List.getElem?_cons_zero, List.getElem?_cons_succ, List.set_cons_zero, List.set_cons_succ, List.length_cons, List.length_nil, ↓reduceIte, if_true, if_false, eq_self, and_true, true_and, and_self, Option.bind_some, Option.bind_none, Option.toList_some, Option.toList_none, List.cons_append, List.nil_append, mset_at, mset_ne, mset_2, mset_mset, Nat.reduceLT, Nat.reduceAdd, G_1, G_4, e1, nI_leI, show ¬ n ≤ p from hn, x_endOf hT, nI_succ', hmax, x_byteAt hT, x_isDigit ht, hd, bI_t, nz1, hN, k1]
      · have hd' := Bool.eq_false_iff.2 hd
        by_cases hl : lr t n p = true
        · have hs : sp t n p = false := decide_eq_false (by have := lr_t.1 hl; omega)
          obtain ⟨A', c, k1, k2, k3, k4⟩ := x_split_loop hT0 f (ed t n p) (i + 1) _ (some (.int (nI (ed t n p)))) (some (.int (byA t n p))) (by omega) eL (TKs_add hs hpn hK)
          refine ⟨A', c, ?_, k2, k3, k4⟩
          have hN := x_addWord (b := b) (u := u) (v := v) (τ := τ) hT eG eL (lr_t.1 hl).2.1 h1 (by omega)
          rw [show wS t p (ed t n p) = tS t n p from by unfold tS; rw [if_pos hpn, if_neg hd, if_pos hl], show (if ed t n p = p + 1 ∧ t p ≤ 104 then t p - 97 else 0) = cV t n p from by unfold cV; rw [if_neg hd]; by_cases q : ed t n p = p + 1 ∧ t p ≤ 104; (rw [if_pos q, if_pos ⟨hl, q⟩]); (rw [if_neg q, if_neg (fun w => q w.2)])] at hN
          rw [e45_12]
          simp (disch := first | omega | assumption | exact Nat.le_of_ble_eq_true rfl) only [m45, e45_0, e45_1, e45_2, e45_5, e45_6, e45_7, e45_10, e45_11i, e45_11n, e45_11r, e45_13, e45_14, e45_17, e45_20, e45_21, e45_22, e45_25, e45_26, e45_27, e45_28, e45_31i, e45_31n, e45_31r, e45_32, e45_33, e45_34, e45_37i, e45_37n, e45_37r, e45_39, e45_41, e45_44, e45_47, e45_48, e45_49, e45_50, e45_51, e45_54, e45_57, e45_59, e45_62, e45_65, e45_66, e45_67, e45_68, e45_69, e45_72, e45_75, e45_77, e45_79, e45_82, e45_83, e45_85, e45_87, e45_90, e45_92, e45_95, e45_97, e45_99, e45_102, e45_104, e45_107, e45_109, e45_110, e45_111, e45_114, e45_115i, e45_115n, e45_115r, e45_116, e45_119, e45_120, e45_121, e45_122, e45_123, e45_126, e45_129, Bool.false_eq_true, Bool.true_eq_false, gfK, pfK, lnK, isC, alK_n, asK_n, List.getElem?_cons_zero, List.getElem?_cons_succ, List.set_cons_zero, List.set_cons_succ, List.length_cons, List.length_nil, ↓reduceIte, if_true, if_false, eq_self, and_true, true_and, and_self, Option.bind_some, Option.bind_none, Option.toList_some, Option.toList_none, List.cons_append, List.nil_append, mset_at, mset_ne, mset_2, mset_mset, Nat.reduceLT, Nat.reduceAdd, G_1, G_4, e1, nI_leI, show ¬ n ≤ p from hn, x_endOf hT, nI_succ', hmax, x_byteAt hT, x_isDigit ht, x_isLetter ht, hd', hl, bI_t, bI_f, nz1, hN, k1]
        · have hl' := Bool.eq_false_iff.2 hl
          have eE : ed t n p = p + 1 := by
            unfold ed
            rw [if_pos hpn, if_neg hd, if_neg hl]
          by_cases hs : t p = 32
          · have hK2 := TKs_skip (sp_t.2 ⟨hpn, hs⟩) hpn hK
            rw [← eE] at hK2
            obtain ⟨A', c, k1, k2, k3, k4⟩ := x_split_loop hT0 f (ed t n p) i A (some (.int (nI (ed t n p)))) (some (.int (byA t n p))) (by omega) eL hK2
            refine ⟨A', c, ?_, k2, k3, k4⟩
            have h32 : byA t n p = 32 := by rw [hb, hs]; rfl
            rw [h32] at k1
            rw [e45_12]
            simp (disch := first | omega | assumption | exact Nat.le_of_ble_eq_true rfl) only [m45, e45_0, e45_1, e45_2, e45_5, e45_6, e45_7, e45_10, e45_11i, e45_11n, e45_11r, e45_13, e45_14, e45_17, e45_20, e45_21, e45_22, e45_25, e45_26, e45_27, e45_28, e45_31i, e45_31n, e45_31r, e45_32, e45_33, e45_34, e45_37i, e45_37n, e45_37r, e45_39, e45_41, e45_44, e45_47, e45_48, e45_49, e45_50, e45_51, e45_54, e45_57, e45_59, e45_62, e45_65, e45_66, e45_67, e45_68, e45_69, e45_72, e45_75, e45_77, e45_79, e45_82, e45_83, e45_85, e45_87, e45_90, e45_92, e45_95, e45_97, e45_99, e45_102, e45_104, e45_107, e45_109, e45_110, e45_111, e45_114, e45_115i, e45_115n, e45_115r, e45_116, e45_119, e45_120, e45_121, e45_122, e45_123, e45_126, e45_129, Bool.false_eq_true, Bool.true_eq_false, gfK, pfK, lnK, isC, alK_n, asK_n, List.getElem?_cons_zero, List.getElem?_cons_succ, List.set_cons_zero, List.set_cons_succ, List.length_cons, List.length_nil, ↓reduceIte, if_true, if_false, eq_self, and_true, true_and, and_self, Option.bind_some, Option.bind_none, Option.toList_some, Option.toList_none, List.cons_append, List.nil_append, mset_at, mset_ne, mset_2, mset_mset, Nat.reduceLT, Nat.reduceAdd, G_1, G_4, e1, nI_leI, show ¬ n ≤ p from hn, x_endOf hT, nI_succ', hmax, x_byteAt hT, ← h32, x_isDigit ht, x_isLetter ht, hd', hl', bI_t, bI_f, nz1]
            rw [h32]
            exact k1
          · have hs' : sp t n p = false := decide_eq_false (by omega)
            obtain ⟨A', c, k1, k2, k3, k4⟩ := x_split_loop hT0 f (ed t n p) (i + 1) _ (some (.int (nI (ed t n p)))) (some (.int (byA t n p))) (by omega) eL (TKs_add hs' hpn hK)
            refine ⟨A', c, ?_, k2, k3, k4⟩
            have c0 : cV t n p = 0 := by
              unfold cV
              rw [if_neg hd, if_neg (fun q => hl q.1)]
            have h32 : ¬ byA t n p = 32 := by
              rw [hb, eq_32 (by omega)]
              exact hs
            have hT3 : tS t n p = if t p = 62 then 7 else if t p = 59 then 8 else 9 := by unfold tS; rw [if_pos hpn, if_neg hd, if_neg hl]
            have hA := fun x => x_addToken (b := b) (u := u) (v := v) (τ := τ) (x := x) (y := 0) (z := nI p) h1 (show i ≤ 600 by omega)
            rw [c0, show nI 0 = 0 from rfl] at k1
            rw [e45_12]
            by_cases h62 : t p = 62
            · have g62 : byA t n p = 62 := by rw [hb, h62]; rfl
              rw [hT3, if_pos h62, show nI 7 = 7 from rfl] at k1
              simp (disch := first | omega | assumption | exact Nat.le_of_ble_eq_true rfl) only [m45, e45_0, e45_1, e45_2, e45_5, e45_6, e45_7, e45_10, e45_11i, e45_11n, e45_11r, e45_13, e45_14, e45_17, e45_20, e45_21, e45_22, e45_25, e45_26, e45_27, e45_28, e45_31i, e45_31n, e45_31r, e45_32, e45_33, e45_34, e45_37i, e45_37n, e45_37r, e45_39, e45_41, e45_44, e45_47, e45_48, e45_49, e45_50, e45_51, e45_54, e45_57, e45_59, e45_62, e45_65, e45_66, e45_67, e45_68, e45_69, e45_72, e45_75, e45_77, e45_79, e45_82, e45_83, e45_85, e45_87, e45_90, e45_92, e45_95, e45_97, e45_99, e45_102, e45_104, e45_107, e45_109, e45_110, e45_111, e45_114, e45_115i, e45_115n, e45_115r, e45_116, e45_119, e45_120, e45_121, e45_122, e45_123, e45_126, e45_129, Bool.false_eq_true, Bool.true_eq_false, gfK, pfK, lnK, isC, alK_n, asK_n, List.getElem?_cons_zero, List.getElem?_cons_succ, List.set_cons_zero, List.set_cons_succ, List.length_cons, List.length_nil, ↓reduceIte, if_true, if_false, eq_self, and_true, true_and, and_self, Option.bind_some, Option.bind_none, Option.toList_some, Option.toList_none, List.cons_append, List.nil_append, mset_at, mset_ne, mset_2, mset_mset, Nat.reduceLT, Nat.reduceAdd, G_1, G_4, e1, nI_leI, show ¬ n ≤ p from hn, x_endOf hT, nI_succ', hmax, x_byteAt hT, x_isDigit ht, x_isLetter ht, hd', hl', bI_t, bI_f, nz1, h32, eq_true g62, hA, k1]
            · have g62 : ¬ byA t n p = 62 := by
                rw [hb, eq_62 (by omega)]
                exact h62
              by_cases h59 : t p = 59
              · have g59 : byA t n p = 59 := by rw [hb, h59]; rfl
                rw [hT3, if_neg h62, if_pos h59, show nI 8 = 8 from rfl] at k1
                simp (disch := first | omega | assumption | exact Nat.le_of_ble_eq_true rfl) only [m45, e45_0, e45_1, e45_2, e45_5, e45_6, e45_7, e45_10, e45_11i, e45_11n, e45_11r, e45_13, e45_14, e45_17, e45_20, e45_21, e45_22, e45_25, e45_26, e45_27, e45_28, e45_31i, e45_31n, e45_31r, e45_32, e45_33, e45_34, e45_37i, e45_37n, e45_37r, e45_39, e45_41, e45_44, e45_47, e45_48, e45_49, e45_50, e45_51, e45_54, e45_57, e45_59, e45_62, e45_65, e45_66, e45_67, e45_68, e45_69, e45_72, e45_75, e45_77, e45_79, e45_82, e45_83, e45_85, e45_87, e45_90, e45_92, e45_95, e45_97, e45_99, e45_102, e45_104, e45_107, e45_109, e45_110, e45_111, e45_114, e45_115i, e45_115n, e45_115r, e45_116, e45_119, e45_120, e45_121, e45_122, e45_123, e45_126, e45_129, Bool.false_eq_true, Bool.true_eq_false, gfK, pfK, lnK, isC, alK_n, asK_n, List.getElem?_cons_zero, List.getElem?_cons_succ, List.set_cons_zero, List.set_cons_succ, List.length_cons, List.length_nil, ↓reduceIte, if_true, if_false, eq_self, and_true, true_and, and_self, Option.bind_some, Option.bind_none, Option.toList_some, Option.toList_none, List.cons_append, List.nil_append, mset_at, mset_ne, mset_2, mset_mset, Nat.reduceLT, Nat.reduceAdd, G_1, G_4, e1, nI_leI, show ¬ n ≤ p from hn, x_endOf hT, nI_succ', hmax, x_byteAt hT, x_isDigit ht, x_isLetter ht, hd', hl', bI_t, bI_f, nz1, h32, g62, eq_true g59, hA, k1]
              · have g59 : ¬ byA t n p = 59 := by
                  rw [hb, eq_59 (by omega)]
                  exact h59
                rw [hT3, if_neg h62, if_neg h59, show nI 9 = 9 from rfl] at k1
                simp (disch := first | omega | assumption | exact Nat.le_of_ble_eq_true rfl) only [m45, e45_0, e45_1, e45_2, e45_5, e45_6, e45_7, e45_10, e45_11i, e45_11n, e45_11r, e45_13, e45_14, e45_17, e45_20, e45_21, e45_22, e45_25, e45_26, e45_27, e45_28, e45_31i, e45_31n, e45_31r, e45_32, e45_33, e45_34, e45_37i, e45_37n, e45_37r, e45_39, e45_41, e45_44, e45_47, e45_48, e45_49, e45_50, e45_51, e45_54, e45_57, e45_59, e45_62, e45_65, e45_66, e45_67, e45_68, e45_69, e45_72, e45_75, e45_77, e45_79, e45_82, e45_83, e45_85, e45_87, e45_90, e45_92, e45_95, e45_97, e45_99, e45_102, e45_104, e45_107, e45_109, e45_110, e45_111, e45_114, e45_115i, e45_115n, e45_115r, e45_116, e45_119, e45_120, e45_121, e45_122, e45_123, e45_126, e45_129, Bool.false_eq_true, Bool.true_eq_false, gfK, pfK, lnK, isC, alK_n, asK_n, List.getElem?_cons_zero, List.getElem?_cons_succ, List.set_cons_zero, List.set_cons_succ, List.length_cons, List.length_nil, ↓reduceIte, if_true, if_false, eq_self, and_true, true_and, and_self, Option.bind_some, Option.bind_none, Option.toList_some, Option.toList_none, List.cons_append, List.nil_append, mset_at, mset_ne, mset_2, mset_mset, Nat.reduceLT, Nat.reduceAdd, G_1, G_4, e1, nI_leI, show ¬ n ≤ p from hn, x_endOf hT, nI_succ', hmax, x_byteAt hT, x_isDigit ht, x_isLetter ht, hd', hl', bI_t, bI_f, nz1, h32, g62, g59, hA, k1]
theorem x_split (hT : TX A n t) : ∃ A', evM 45 [.ref 4, .ref 1] (G b u v A τ) = some (none, G b u v A' τ) ∧ CAt A' n t (sk t n 0) ∧ ∀ k, k < 4 ∨ 7 < k → A' k = A k := by
  obtain ⟨A', c, h1, h2, h3, h4⟩ := x_split_loop (b := b) (u := u) (v := v) (τ := τ) hT n 0 0 (up A 4 (fL [0, 0])) none none (by omega) (by omega) ⟨by rw [up_at]; rfl, by rw [up_at]; rfl, fun j hj => absurd hj (by omega), rfl, by omega, fun k hk => up_ne (by omega)⟩
  refine ⟨A', ?_, ⟨c, 0, h2, by omega, h3, rfl⟩, h4⟩
  have h1' : ev 45 12 [some (.ref 4), some (.ref 1), some (.int 0), none, none] [] (G b u v (up A 4 (fL [0, 0])) τ) = _ := h1
  simp (disch := first | omega | assumption | exact Nat.le_of_ble_eq_true rfl) only [m45, e45_0, e45_1, e45_2, e45_5, e45_6, e45_7, e45_10, e45_11i, e45_11n, e45_11r, e45_13, e45_14, e45_17, e45_20, e45_21, e45_22, e45_25, e45_26, e45_27, e45_28, e45_31i, e45_31n, e45_31r, e45_32, e45_33, e45_34, e45_37i, e45_37n, e45_37r, e45_39, e45_41, e45_44, e45_47, e45_48, e45_49, e45_50, e45_51, e45_54, e45_57, e45_59, e45_62, e45_65, e45_66, e45_67, e45_68, e45_69, e45_72, e45_75, e45_77, e45_79, e45_82, e45_83, e45_85, e45_87, e45_90, e45_92, e45_95, e45_97, e45_99, e45_102, e45_104, e45_107, e45_109, e45_110, e45_111, e45_114, e45_115i, e45_115n, e45_115r, e45_116, e45_119, e45_120, e45_121, e45_122, e45_123, e45_126, e45_129, Bool.false_eq_true, Bool.true_eq_false, gfK, pfK, lnK, isC, alK_n, asK_n, List.getElem?_cons_zero, List.getElem?_cons_succ, List.set_cons_zero, List.set_cons_succ, List.length_cons, List.length_nil, ↓reduceIte, if_true, if_false, eq_self, and_true, true_and, and_self, Option.bind_some, Option.bind_none, Option.toList_some, Option.toList_none, List.cons_append, List.nil_append, mset_at, mset_ne, mset_2, mset_mset, Nat.reduceLT, Nat.reduceAdd, G_4, S_4, up_at, up_up, fL_0, fL_s, h1']
theorem x_sort (h : CAt A n t p) : evM 53 [.ref 4] (G b u v A τ) = some (some (.int (nI (tS t n p))), (G b u v A τ)) := by
  obtain ⟨c, i, ⟨a, d, g, q⟩, h1, h2, rfl⟩ := h
  have := (q i h1).1
  simp (disch := first | omega | assumption | exact Nat.le_of_ble_eq_true rfl) only [m53, e53_0, e53_1, e53_4, e53_7, e53_8, e53_11, e53_12, e53_15, e53_18, e53_19, e53_22, e53_25, e53_28, e53_29, e53_32, e53_33, e53_36, e53_37, e53_40, e53_41, Bool.false_eq_true, Bool.true_eq_false, gfK, pfK, lnK, isC, alK_n, asK_n, List.getElem?_cons_zero, List.getElem?_cons_succ, List.set_cons_zero, List.set_cons_succ, List.length_cons, List.length_nil, ↓reduceIte, if_true, if_false, eq_self, and_true, true_and, and_self, Option.bind_some, Option.bind_none, Option.toList_some, Option.toList_none, List.cons_append, List.nil_append, mset_at, mset_ne, mset_2, mset_mset, Nat.reduceLT, Nat.reduceAdd, G_4, G_5, h2, a, nI_not_neg, nI_leI, show ¬ c + 1 ≤ i from by omega, gt_600, show ¬ 600 < i from by omega, this]
theorem x_value (h : CAt A n t p) : evM 54 [.ref 4] (G b u v A τ) = some (some (.int (nI (cV t n p))), (G b u v A τ)) := by
  obtain ⟨c, i, ⟨a, d, g, q⟩, h1, h2, rfl⟩ := h
  have := (q i h1).2.1
  simp (disch := first | omega | assumption | exact Nat.le_of_ble_eq_true rfl) only [m54, e54_0, e54_1, e54_4, e54_7, e54_8, e54_11, e54_12, e54_15, e54_18, e54_19, e54_22, e54_25, e54_28, e54_29, e54_32, e54_33, e54_36, e54_37, e54_40, e54_41, Bool.false_eq_true, Bool.true_eq_false, gfK, pfK, lnK, isC, alK_n, asK_n, List.getElem?_cons_zero, List.getElem?_cons_succ, List.set_cons_zero, List.set_cons_succ, List.length_cons, List.length_nil, ↓reduceIte, if_true, if_false, eq_self, and_true, true_and, and_self, Option.bind_some, Option.bind_none, Option.toList_some, Option.toList_none, List.cons_append, List.nil_append, mset_at, mset_ne, mset_2, mset_mset, Nat.reduceLT, Nat.reduceAdd, G_4, G_6, h2, a, nI_not_neg, nI_leI, show ¬ c + 1 ≤ i from by omega, gt_600, show ¬ 600 < i from by omega, this]
theorem x_start (h : CAt A n t p) : evM 57 [.ref 4] (G b u v A τ) = some (some (.int (nI p)), (G b u v A τ)) := by
  obtain ⟨c, i, ⟨a, d, g, q⟩, h1, h2, rfl⟩ := h
  have := (q i h1).2.2
  simp (disch := first | omega | assumption | exact Nat.le_of_ble_eq_true rfl) only [m57, e57_0, e57_1, e57_4, e57_7, e57_8, e57_11, e57_12, e57_15, e57_18, e57_19, e57_22, e57_25, e57_28, e57_29, e57_32, e57_33, e57_36, e57_37, e57_40, e57_41, Bool.false_eq_true, Bool.true_eq_false, gfK, pfK, lnK, isC, alK_n, asK_n, List.getElem?_cons_zero, List.getElem?_cons_succ, List.set_cons_zero, List.set_cons_succ, List.length_cons, List.length_nil, ↓reduceIte, if_true, if_false, eq_self, and_true, true_and, and_self, Option.bind_some, Option.bind_none, Option.toList_some, Option.toList_none, List.cons_append, List.nil_append, mset_at, mset_ne, mset_2, mset_mset, Nat.reduceLT, Nat.reduceAdd, G_4, G_7, h2, a, nI_not_neg, nI_leI, show ¬ c + 1 ≤ i from by omega, gt_600, show ¬ 600 < i from by omega, this]
theorem x_step (h : CAt A n t p) : ∃ A', evM 55 [.ref 4] (G b u v A τ) = some (none, G b u v A' τ) ∧ CAt A' n t (nx t n p) ∧ ∀ k, k ≠ 4 → A' k = A k := by
  obtain ⟨c, i, ⟨a, d, g, q⟩, h1, h2, rfl⟩ := h
  by_cases hi : i < c
  · refine ⟨up A 4 (fL [A 4 0, nI (i + 1)]), ?_, ⟨c, i + 1, ⟨?_, d, g, fun j hj => ?_⟩, by omega, ?_, by rw [posE]⟩, fun k hk => up_ne hk⟩
    · simp (disch := first | omega | assumption | exact Nat.le_of_ble_eq_true rfl) only [m55, e55_0, e55_1, e55_4, e55_5, e55_8, e55_9, e55_10, e55_13, e55_14i, e55_14r, e55_15, e55_18, e55_19, e55_20, e55_23, Bool.false_eq_true, Bool.true_eq_false, gfK, pfK, lnK, isC, alK_n, asK_n, List.getElem?_cons_zero, List.getElem?_cons_succ, List.set_cons_zero, List.set_cons_succ, List.length_cons, List.length_nil, ↓reduceIte, if_true, if_false, eq_self, and_true, true_and, and_self, Option.bind_some, Option.bind_none, Option.toList_some, Option.toList_none, List.cons_append, List.nil_append, mset_at, mset_ne, mset_2, mset_mset, Nat.reduceLT, Nat.reduceAdd, G_4, S_4, h2, a, nI_prd, nI_leI, show ¬ c ≤ i from by omega, nI_succ']
    · rw [up_at]
      exact a
    · rw [up_ne (by omega), up_ne (by omega), up_ne (by omega)]
      exact q j hj
    · rw [up_at]
      rfl
  · have : i = c := by omega
    subst this
    refine ⟨A, ?_, ?_, fun k hk => rfl⟩
    · simp (disch := first | omega | assumption | exact Nat.le_of_ble_eq_true rfl) only [m55, e55_0, e55_1, e55_4, e55_5, e55_8, e55_9, e55_10, e55_13, e55_14i, e55_14r, e55_15, e55_18, e55_19, e55_20, e55_23, Bool.false_eq_true, Bool.true_eq_false, gfK, pfK, lnK, isC, alK_n, asK_n, List.getElem?_cons_zero, List.getElem?_cons_succ, List.set_cons_zero, List.set_cons_succ, List.length_cons, List.length_nil, ↓reduceIte, if_true, if_false, eq_self, and_true, true_and, and_self, Option.bind_some, Option.bind_none, Option.toList_some, Option.toList_none, List.cons_append, List.nil_append, mset_at, mset_ne, mset_2, mset_mset, Nat.reduceLT, Nat.reduceAdd, G_4, S_4, h2, a, nI_prd, nI_leI, Nat.le_refl]
    · rw [g, nx_n]
      exact ⟨i, i, ⟨a, d, g, q⟩, Nat.le_refl _, h2, g⟩
theorem x_pass_t (h : CAt A n t p) (hs : nI (tS t n p) = x) : ∃ A', evM 56 [.ref 4, .int x] (G b u v A τ) = some (some (.int 1), G b u v A' τ) ∧ CAt A' n t (nx t n p) ∧ ∀ k, k ≠ 4 → A' k = A k := by
  obtain ⟨A', h1, h2, h3⟩ := x_step (b := b) (u := u) (v := v) (τ := τ) h
  have h4 := x_sort (b := b) (u := u) (v := v) (τ := τ) h
  rw [hs] at h4
  refine ⟨A', ?_, h2, h3⟩
  simp (disch := first | omega | assumption | exact Nat.le_of_ble_eq_true rfl) only [m56, e56_0, e56_1, e56_4, e56_5, e56_8, e56_9, e56_12, e56_13i, e56_13n, e56_13r, e56_14, e56_15, e56_18, e56_19, e56_22, e56_23b0, e56_23b1, Bool.false_eq_true, Bool.true_eq_false, gfK, pfK, lnK, isC, alK_n, asK_n, List.getElem?_cons_zero, List.getElem?_cons_succ, List.set_cons_zero, List.set_cons_succ, List.length_cons, List.length_nil, ↓reduceIte, if_true, if_false, eq_self, and_true, true_and, and_self, Option.bind_some, Option.bind_none, Option.toList_some, Option.toList_none, List.cons_append, List.nil_append, mset_at, mset_ne, mset_2, mset_mset, Nat.reduceLT, Nat.reduceAdd, G_4, h4, h1, nz1]
theorem x_pass_f (h : CAt A n t p) (hs : ¬ nI (tS t n p) = x) : evM 56 [.ref 4, .int x] (G b u v A τ) = some (some (.int 0), (G b u v A τ)) := by
  have h4 := x_sort (b := b) (u := u) (v := v) (τ := τ) h
  simp (disch := first | omega | assumption | exact Nat.le_of_ble_eq_true rfl) only [m56, e56_0, e56_1, e56_4, e56_5, e56_8, e56_9, e56_12, e56_13i, e56_13n, e56_13r, e56_14, e56_15, e56_18, e56_19, e56_22, e56_23b0, e56_23b1, Bool.false_eq_true, Bool.true_eq_false, gfK, pfK, lnK, isC, alK_n, asK_n, List.getElem?_cons_zero, List.getElem?_cons_succ, List.set_cons_zero, List.set_cons_succ, List.length_cons, List.length_nil, ↓reduceIte, if_true, if_false, eq_self, and_true, true_and, and_self, Option.bind_some, Option.bind_none, Option.toList_some, Option.toList_none, List.cons_append, List.nil_append, mset_at, mset_ne, mset_2, mset_mset, Nat.reduceLT, Nat.reduceAdd, G_4, h4, hs]
end XSPLIT
