/-! CALL act: the whole. -/
section ACT2
variable {b : Nat} {u v : Int64} {A : Nat → Nat → Int32} {τ : Nat × Nat × Nat × (Nat → Int32)} {lc : Nat → Nat} {lt : Nat → Nat → Nat} {m t d q l k i : Nat} {x y z w : Int32} {σ : mS} {l10 : Option Value} {pr kd : Nat → Nat} {Lm Lk : List Nat}
variable {tick kept : Int32} {mr ar lr nr : Nat} {mf af lf nf st : Nat → Int32}
theorem JBl_upd2 (hm : lr ≤ 20) {j : Nat} (hj : j < lr) {x : Int32} (h : JBl ar lr lf st) : JBl ar lr (upd lf (j * 8 + 2) x) (upd st (45 + 8 * j + 2) x) := by
  refine ⟨fun k hk => ?_, ParOK_s (fun k hk => upd_ne (by omega)) h.2⟩
  obtain ⟨⟨h1, h2⟩, h3, h4, h5⟩ := h.1 k hk
  rw [upd_ne (k := 45 + 8 * j + 2) (j := 45 + 8 * k + 6) (by omega), upd_ne (k := 45 + 8 * j + 2) (j := 45 + 8 * k + 4) (by omega), upd_ne (k := 45 + 8 * j + 2) (j := 45 + 8 * k) (by omega), upd_ne (k := j * 8 + 2) (j := k * 8 + 7) (by omega)]
  refine ⟨⟨fun c hc => ?_, h2⟩, h3, h4, fun p hp => ?_⟩
  · by_cases hh : k = j ∧ c = 2
    · obtain ⟨rfl, rfl⟩ := hh
      rw [upd_at, upd_at]
    · rw [upd_ne (by omega), upd_ne (by omega)]
      exact h1 c hc
  · rw [upd_ne (by omega)]
    exact h5 p hp
theorem JBl_add {a : Int32} (hm : lr ≤ 20) : ∀ (L : List Nat) (lf st : Nat → Int32), (∀ j, j ∈ L → j < lr) → JBl ar lr lf st → JBl ar lr (addL 8 2 a L lf) (addM 45 8 a L st)
  | [], lf, st, _, h => h
  | j :: L, lf, st, hL, h => by
    have hj := hL j (List.mem_cons_self ..)
    have e := (h.1 j hj).1.1 2 (by omega)
    show JBl ar lr (addL 8 2 a L (upd lf (j * 8 + 2) (lf (j * 8 + 2) + a))) (addM 45 8 a L (upd st (45 + 8 * j + 2) (st (45 + 8 * j + 2) + a)))
    rw [e]
    exact JBl_add hm L _ _ (fun k hk => hL k (List.mem_cons_of_mem _ hk)) (JBl_upd2 hm hj h)
theorem JB_act (hJ : JB tick mr mf ar af lr lf nr nf st) (hn : nr < 60) (hm : m < ar) (ht : t < 16) (hq : q < 8) (hd : d < 8) (hl : l < 4) (hk : k < lr) {to : Nat} (hto : to < 16) (hLm : ∀ j, j ∈ Lm → j < mr) (hLk : ∀ j, j ∈ Lk → j < lr) {due : Int32} {ak : Bool} {y : Nat} (hy : st (29 + 4 * m + 3) = nI y) (hy9 : y ≤ 9) (hak : ak = true → 0 < y) : JB (tick + 1) mr (addL 3 2 due Lm mf) ar (afA af m ak (nI to)) lr (addL 8 2 (-1) Lk lf) (nr + 1) (nfA nf nr tick m q d t (nI to) (nI k) due l) (stA (stA1 st m ak Lk Lm due (nI to)) nr tick m q d t (nI to) (nI k) due l) := by
  obtain ⟨⟨c1, c2, c3, c4, c5, s0, s1, s2, s3, s4⟩, jm, ja, jl, jn⟩ := id hJ
  have n1 : ∀ i, i < 45 ∨ 205 ≤ i → addM 45 8 (-1) Lk st i = st i := fun i hi => by
    rw [addM_ne]
    intro j hj
    have := hLk j hj
    omega
  obtain ⟨q2, hq2⟩ : ∃ q2, q2 = upd (addM 45 8 (-1) Lk st) (29 + 4 * m + 3) (addM 45 8 (-1) Lk st (29 + 4 * m + 3) - bI ak) := ⟨_, rfl⟩
  have e4 : ∀ i, stA1 st m ak Lk Lm due (nI to) i = upd (addM 5 3 due Lm q2) (29 + 4 * m + 1) (nI to) i := fun i => by rw [hq2]; rfl
  have n4 : ∀ i, i < 5 ∨ 205 ≤ i → stA1 st m ak Lk Lm due (nI to) i = st i := fun i hi => by
    rw [e4, upd_ne (by omega), addM_lo c2 hLm (by omega), hq2, upd_ne (by omega), n1 i (by omega)]
  have n4a : ∀ i, 29 ≤ i → i < 45 → i ≠ 29 + 4 * m + 1 → i ≠ 29 + 4 * m + 3 → stA1 st m ak Lk Lm due (nI to) i = st i := fun i h1 h2 h3 h4 => by
    rw [e4, upd_ne h3, addM_lo c2 hLm (by omega), hq2, upd_ne h4, n1 i (by omega)]
  have n4l : ∀ i, 45 ≤ i → i < 205 → stA1 st m ak Lk Lm due (nI to) i = addM 45 8 (-1) Lk st i := fun i h1 h2 => by
    rw [e4, upd_ne (by omega), addM_lo c2 hLm (by omega), hq2, upd_ne (by omega)]
  have n4m : ∀ i, 5 ≤ i → i < 29 → stA1 st m ak Lk Lm due (nI to) i = addM 5 3 due Lm st i := fun i h1 h2 => by
    rw [e4, upd_ne (by omega)]
    refine addM_eq (R := fun i => 5 ≤ i ∧ i < 29) Lm q2 st (fun j hj => by have := hLm j hj; omega) (fun i hi => ?_) i ⟨h1, h2⟩
    rw [hq2, upd_ne (by omega), n1 i (by omega)]
  have ey : stA1 st m ak Lk Lm due (nI to) (29 + 4 * m + 3) = nI y - bI ak := by
    rw [e4, upd_ne (by omega), addM_lo c2 hLm (by omega), hq2, upd_at, n1 _ (by omega), hy]
  have et : stA1 st m ak Lk Lm due (nI to) (29 + 4 * m + 1) = nI to := by rw [e4, upd_at]
  obtain ⟨s5, hs5⟩ : ∃ s5, s5 = stA1 st m ak Lk Lm due (nI to) := ⟨_, rfl⟩
  rw [← hs5] at n4 n4a n4l n4m ey et ⊢
  have S : ∀ i, i ≠ 3 → i ≠ 4 → i < 205 + 10 * nr → stA s5 nr tick m q d t (nI to) (nI k) due l i = s5 i := fun i h3 h4 h => by
    unfold stA
    simp (disch := omega) only [upd_at, upd_ne]
  have N : ∀ i, i < nr * 10 → nfA nf nr tick m q d t (nI to) (nI k) due l i = nf i := fun i h => by
    unfold nfA
    simp (disch := omega) only [upd_at, upd_ne, zrow_ne]
  refine ⟨⟨c1, c2, c3, c4, by omega, ?_, ?_, ?_, ?_, ?_⟩, ?_, ?_, ?_, ?_⟩
  · rw [S 0 (by omega) (by omega) (by omega), n4 0 (by omega), s0]
  · rw [S 1 (by omega) (by omega) (by omega), n4 1 (by omega), s1]
  · rw [S 2 (by omega) (by omega) (by omega), n4 2 (by omega), s2]
  · unfold stA
    simp (disch := omega) only [upd_at, upd_ne]
  · unfold stA
    simp (disch := omega) only [upd_at, upd_ne]
  · exact JBm_s c2 (fun i h1 h2 => by rw [S i (by omega) (by omega) (by omega), n4m i h1 h2]) (JBm_add c2 Lm mf st hLm jm)
  · intro j hj
    obtain ⟨⟨a0, a1, a2, a3, a4⟩, g1, g2, g3, g4⟩ := ja j hj
    rw [S (29 + 4 * j) (by omega) (by omega) (by omega), S (29 + 4 * j + 1) (by omega) (by omega) (by omega), S (29 + 4 * j + 2) (by omega) (by omega) (by omega), S (29 + 4 * j + 3) (by omega) (by omega) (by omega)]
    have hc : cntF (fun i => decide (nfA nf nr tick m q d t (nI to) (nI k) due l (i * 10 + 1) = nI j)) (nr + 1) = cntF (fun k => decide (nf (k * 10 + 1) = nI j)) nr + (if m = j then 1 else 0) := by
      rw [cntF, cntF_congr nr (Q := fun k => decide (nf (k * 10 + 1) = nI j)) (fun i hi => by rw [N _ (by omega)])]
      have : nfA nf nr tick m q d t (nI to) (nI k) due l (nr * 10 + 1) = nI m := by
        unfold nfA
        simp (disch := omega) only [upd_at, upd_ne]
      rw [this]
      by_cases hmj : m = j
      · rw [if_pos hmj, hmj, decide_eq_true rfl, if_pos rfl]
      · rw [if_neg hmj, decide_eq_false (fun g => hmj (nI_inj (by omega) (by omega) g)), if_neg Bool.false_ne_true]
    rw [hc]
    by_cases hmj : m = j
    · subst hmj
      rw [if_pos rfl, et, ey, n4a (29 + 4 * m) (by omega) (by omega) (by omega) (by omega), n4a (29 + 4 * m + 2) (by omega) (by omega) (by omega) (by omega)]
      have y1 : ∃ y', y' ≤ 9 ∧ nI y - bI ak = nI y' := by
        cases ak
        · exact ⟨y, hy9, by rw [bI_f, Int32.sub_zero]⟩
        · obtain ⟨y', rfl⟩ : ∃ y', y = y' + 1 := ⟨y - 1, by have := hak rfl; omega⟩
          exact ⟨y', by omega, by rw [bI_t, nI_prd]⟩
      have ea2 : afA af m ak (nI to) (m * 5 + 2) = nI y - bI ak := by
        unfold afA
        rw [upd_ne (by omega)]
        cases ak
        · rw [if_neg Bool.false_ne_true, upd_ne (by omega), a2, hy, bI_f, Int32.sub_zero]
        · rw [if_pos rfl, upd_at, a2, hy, bI_t, am1]
      have ea3 : afA af m ak (nI to) (m * 5 + 3) = nI (cntF (fun k => decide (nf (k * 10 + 1) = nI m)) nr + 1) := by
        unfold afA
        rw [upd_ne (by omega)]
        cases ak
        · rw [if_neg Bool.false_ne_true, upd_at, a3, nI_succ']
        · rw [if_pos rfl, upd_ne (by omega), upd_at, a3, nI_succ']
      have ea1 : afA af m ak (nI to) (m * 5 + 1) = af (m * 5 + 1) := by
        unfold afA
        rw [upd_ne (by omega)]
        cases ak
        · rw [if_neg Bool.false_ne_true, upd_ne (by omega)]
        · rw [if_pos rfl, upd_ne (by omega), upd_ne (by omega)]
      have ea4 : afA af m ak (nI to) (m * 5 + 4) = af (m * 5 + 4) := by
        unfold afA
        rw [upd_ne (by omega)]
        cases ak
        · rw [if_neg Bool.false_ne_true, upd_ne (by omega)]
        · rw [if_pos rfl, upd_ne (by omega), upd_ne (by omega)]
      have ea0 : afA af m ak (nI to) (m * 5) = nI to := by
        unfold afA
        rw [upd_at]
      exact ⟨⟨ea0, ea1.trans a1, ea2, ea3, ea4.trans a4⟩, g1, ⟨to, hto, rfl⟩, g3, y1⟩
    · rw [if_neg hmj, Nat.add_zero, n4a (29 + 4 * j) (by omega) (by omega) (by omega) (by omega), n4a (29 + 4 * j + 1) (by omega) (by omega) (by omega) (by omega), n4a (29 + 4 * j + 2) (by omega) (by omega) (by omega) (by omega), n4a (29 + 4 * j + 3) (by omega) (by omega) (by omega) (by omega)]
      have ea : ∀ c, c < 5 → afA af m ak (nI to) (j * 5 + c) = af (j * 5 + c) := fun c hc => by
        unfold afA
        rw [upd_ne (by omega)]
        cases ak
        · rw [if_neg Bool.false_ne_true, upd_ne (by omega)]
        · rw [if_pos rfl, upd_ne (by omega), upd_ne (by omega)]
      exact ⟨⟨(ea 0 (by omega)).trans a0, (ea 1 (by omega)).trans a1, (ea 2 (by omega)).trans a2, (ea 3 (by omega)).trans a3, (ea 4 (by omega)).trans a4⟩, g1, g2, g3, g4⟩
  · exact JBl_s c4 (fun i h1 h2 => by rw [S i (by omega) (by omega) (by omega), n4l i h1 h2]) (JBl_add c4 Lk lf st hLk jl)
  · intro j hj
    by_cases hjn : j = nr
    · subst hjn
      refine ⟨fun c hc => ?_, ⟨m, hm, ?_⟩, ⟨q, hq, ?_⟩, ⟨d, hd, ?_⟩, ⟨t, ht, ?_⟩, ⟨k, hk, ?_⟩, Or.inl ?_, ⟨l, hl, ?_⟩⟩
      · rcases (by omega : c = 0 ∨ c = 1 ∨ c = 2 ∨ c = 3 ∨ c = 4 ∨ c = 5 ∨ c = 6 ∨ c = 7 ∨ c = 8 ∨ c = 9) with rfl | rfl | rfl | rfl | rfl | rfl | rfl | rfl | rfl | rfl <;> unfold nfA stA <;> simp (disch := omega) only [upd_at, upd_ne, zrow_in, Nat.add_zero]
      all_goals
        unfold stA
        simp (disch := omega) only [upd_at, upd_ne]
    · obtain ⟨gc, g1, g2, g3, g4, g6, g8, g9⟩ := jn j (by omega)
      have el : ∀ c, c < 10 → stA s5 nr tick m q d t (nI to) (nI k) due l (205 + 10 * j + c) = st (205 + 10 * j + c) := fun c hc => by
        rw [S _ (by omega) (by omega) (by omega), n4 _ (by omega)]
      rw [el 1 (by omega), el 2 (by omega), el 3 (by omega), el 4 (by omega), el 6 (by omega), el 8 (by omega), el 9 (by omega)]
      exact ⟨fun c hc => by rw [N _ (by omega), el c hc]; exact gc c hc, g1, g2, g3, g4, g6, g8, g9⟩
theorem all_congr {P Q : Nat → Bool} : ∀ (L : List Nat), (∀ j, j ∈ L → P j = Q j) → L.all P = L.all Q
  | [], _ => List.all_nil.trans List.all_nil.symm
  | j :: L, h => by rw [List.all_cons, List.all_cons, h j (List.mem_cons_self ..), all_congr L (fun k hk => h k (List.mem_cons_of_mem _ hk))]
theorem act_core (hJ : JB tick mr mf ar af lr lf nr nf st) (hB : PKb pr kd) (hW : WF lc lt) (hb : b = 8 ∨ b = 19) (hm : m < ar) (hq : q < 8) (hl4 : l < 4) (ht : t < 16) (hat : st (29 + 4 * m + 1) = nI t) {dn : Int32} (hdn : dn = -9 ∨ ∃ d, d < 8 ∧ dn = nI d) (w : Int32) : ∃ r tick' mf' af' lf' nr' nf' s', (∀ u v A τ, CW A b lc lt → PKc pr kd A → ev 111 71 [some (.ref 0), some (.int (nI m)), some (.int (nI q)), some (.int (nI l)), some (.int w), some (.int dn), none] [] (BS b u v A τ tick kept mr mf ar af lr lf nr nf) = some (some (.int r), (BS b u v A τ tick' kept mr mf' ar af' lr lf' nr' nf'))) ∧ (∀ u v A τ, MW A lc lt → PKm pr kd A → ev 192 79 [some (.ref 60), some (.int (nI m)), some (.int (nI q)), some (.int (nI l)), some (.int w), some (.int (nI (29 + 4 * m))), some (.int (nI t)), some (.int dn), none, none, none] [] (MS b u v A τ st) = some (some (.int r), (MS b u v A τ s'))) ∧ JB tick' mr mf' ar af' lr lf' nr' nf' s' := by
  obtain ⟨⟨c1, c2, c3, c4, c5, s0, s1, s2, s3, s4⟩, jm, ja, jl, jn⟩ := id hJ
  have hm4 : m < 4 := by omega
  rcases hdn with rfl | ⟨d, hd, rfl⟩
  · refine ⟨-11, tick, mf, af, lf, nr, nf, st, fun u v A τ hC hP => ?_, fun u v A τ hC hP => ?_, hJ⟩
    · simp (disch := first | omega | assumption | exact Nat.le_of_ble_eq_true rfl) only [m111, e111_0, e111_1, e111_4, e111_7, e111_8, e111_11, e111_14, e111_15, e111_18, e111_21, e111_22, e111_23, e111_24, e111_27, e111_30, e111_32, e111_33, e111_34, e111_37, e111_40, e111_41, e111_42, e111_44, e111_45, e111_48, e111_49, e111_50, e111_53, e111_56, e111_57, e111_58, e111_61, e111_62, e111_65, e111_68, e111_69i, e111_69n, e111_69r, e111_71, e111_72, e111_73, e111_75, e111_76, e111_79i, e111_79n, e111_79r, e111_81, e111_83, e111_86, e111_88, e111_90, e111_91, e111_92, e111_93, e111_94, e111_95, e111_97, e111_98, e111_101, e111_103, m112, e112_0, e112_1, e112_4, e112_7, e112_8, e112_9, e112_12, e112_13, e112_16, e112_19, e112_20, e112_21, e112_24, e112_25, e112_28, e112_31, e112_32, e112_33, e112_34, e112_37, e112_38, e112_39, e112_42, e112_45, e112_46, e112_47, e112_48, e112_49, e112_52, e112_55, e112_56, e112_59, e112_62, e112_63, e112_64, e112_67, e112_70, e112_71, e112_72, e112_73, e112_76, e112_77, e112_80, e112_83, e112_84, e112_85, e112_88, e112_89, e112_90, e112_93, e112_96, e112_99, e112_100, e112_101, e112_102, e112_105, e112_108, e112_111, e112_114, e112_115, e112_118, e112_119, Bool.false_eq_true, Bool.true_eq_false, gfK, pfK, lnK, isC, alK_n, asK_n, List.getElem?_cons_zero, List.getElem?_cons_succ, List.set_cons_zero, List.set_cons_succ, List.length_cons, List.length_nil, ↓reduceIte, if_true, if_false, eq_self, and_true, true_and, and_self, Option.bind_some, Option.bind_none, Option.toList_some, Option.toList_none, List.cons_append, List.nil_append, mset_at, mset_ne, mset_2, mset_mset, Nat.reduceLT, Nat.reduceAdd, B_0, R_isDoingN (x := -9) (Or.inl (by decide)), nz1, show (-10 : Int32) - 1 = -11 from by decide]
    · simp (disch := first | omega | assumption | exact Nat.le_of_ble_eq_true rfl) only [m192, e192_79, e192_81, e192_83, e192_86, e192_87, e192_88, e192_90, e192_92, e192_95, e192_98, e192_100, Bool.false_eq_true, Bool.true_eq_false, gfK, pfK, lnK, isC, alK_n, asK_n, List.getElem?_cons_zero, List.getElem?_cons_succ, List.set_cons_zero, List.set_cons_succ, List.length_cons, List.length_nil, ↓reduceIte, if_true, if_false, eq_self, and_true, true_and, and_self, Option.bind_some, Option.bind_none, Option.toList_some, Option.toList_none, List.cons_append, List.nil_append, mset_at, mset_ne, mset_2, mset_mset, Nat.reduceLT, Nat.reduceAdd, M_60]
  · obtain ⟨⟨a0, a1, a2, a3, a4⟩, ⟨n, hn, fn⟩, _, _, ⟨y, hy9, fy⟩⟩ := ja m hm
    have e0' := a0.trans hat
    have d9 := nI_m9 (n := d) (by omega)
    have hwl := (hW (t * 8 + d) (by omega)).1
    have hlots : ∀ u v A τ, CW A b lc lt → evM 62 [.ref b, .int (nI t), .int (nI d)] (BS b u v A τ tick kept mr mf ar af lr lf nr nf) = some (some (.int (nI (lc (t * 8 + d)))), (BS b u v A τ tick kept mr mf ar af lr lf nr nf)) := fun u v A τ hC => W_lotsIn hb (CW_BA hb hC) ht hd
    have hmlots : ∀ u v A τ, MW A lc lt → evM 140 [.ref 60, .int (nI t), .int (nI d)] (MS b u v A τ st) = some (some (.int (nI (lc (t * 8 + d)))), (MS b u v A τ st)) := fun u v A τ hC => V_lots (MW_up (by omega) hC) ht hd
    by_cases hl : l < lc (t * 8 + d)
    · -- the leave
      obtain ⟨Ls, hL⟩ := JB_l jl c4
      obtain ⟨Q, hQ⟩ : ∃ Q : Nat → Bool, Q = fun i => decide (i < lr) && (decide (st (45 + 8 * i) = nI m) && (bi (st (45 + 8 * i + 1)) d && (Ls i).all (stM st))) := ⟨_, rfl⟩
      have hQP : (fun l => decide (l < lr) && (decide (lf (l * 8) = nI m) && (btB (lf (l * 8 + 1)) d && (Ls l).all (stB lf tick)))) = Q := by
        funext i
        rw [hQ]
        by_cases hi : i < lr
        · have e1 := (jl.1 i hi).1.1 0 (by omega)
          rw [Nat.add_zero, Nat.add_zero] at e1
          show (decide (i < lr) && (decide (lf (i * 8) = nI m) && (btB (lf (i * 8 + 1)) d && (Ls i).all (stB lf tick)))) = _
          rw [e1, (jl.1 i hi).1.1 1 (by omega), btB_bi (by omega), st_eq jl s4 (Ls i) (ch_lt (Ls i) _ (hL i hi).1)]
        · show (decide (i < lr) && _) = (decide (i < lr) && _)
          rw [decide_eq_false hi, Bool.false_and, Bool.false_and]
      have hlv := fun u v A τ => B_leaveFor (b := b) (u := u) (v := v) (A := A) (τ := τ) (tick := tick) (kept := kept) (ar := ar) (af := af) (mr := mr) (mf := mf) (nr := nr) (nf := nf) (lf := lf) (m := m) (d := d) (Ls := Ls) c4 hm4 (by omega) (fun j hj => ⟨(hL j hj).1, (hL j hj).2.2⟩)
      rw [hQP, firstF_cut (k := lr) 20 0 (fun j hj => by rw [hQ]; show (decide (j < lr) && _) = false; rw [decide_eq_false (by omega)]; rfl) (by omega), Nat.sub_zero] at hlv
      have hml := fun u v A τ => mleave_loop (b := b) (u := u) (v := v) (A := A) (τ := τ) (m := m) (q := q) (d := d) (y := nI l) (z := w) (st := st) (x5 := nI (29 + 4 * m)) (x6 := nI t) (l10 := none) (Q := Q) (Ls := Ls) c4 hd (fun j hj => (hL j hj).2.1) (fun i hi => by rw [hQ]; show (decide (i < lr) && _) = _; rw [decide_eq_true hi]; rfl) lr (Nat.le_refl _)
      rw [Nat.sub_self, show firstF Q lr 0 = -9 from rfl] at hml
      have hpre : ∀ u v A τ, MW A lc lt → ev 192 79 [some (.ref 60), some (.int (nI m)), some (.int (nI q)), some (.int (nI l)), some (.int w), some (.int (nI (29 + 4 * m))), some (.int (nI t)), some (.int (nI d)), none, none, none] [] (MS b u v A τ st) = ev 192 179 [some (.ref 60), some (.int (nI m)), some (.int (nI q)), some (.int (nI l)), some (.int w), some (.int (nI (29 + 4 * m))), some (.int (nI t)), some (.int (nI d)), some (.int (firstF Q 0 lr)), some (.int (-1)), none] [] (MS b u v A τ st) := fun u v A τ hC => by
        simp (disch := first | omega | assumption | exact Nat.le_of_ble_eq_true rfl) only [m192, e192_79, e192_81, e192_83, e192_86, e192_87, e192_88, e192_90, e192_92, e192_95, e192_98, e192_100, e192_101, e192_103i, e192_103n, e192_103r, e192_105, e192_106, e192_109, e192_110, e192_111, e192_112, e192_113i, e192_113n, e192_113r, Bool.false_eq_true, Bool.true_eq_false, gfK, pfK, lnK, isC, alK_n, asK_n, List.getElem?_cons_zero, List.getElem?_cons_succ, List.set_cons_zero, List.set_cons_succ, List.length_cons, List.length_nil, ↓reduceIte, if_true, if_false, eq_self, and_true, true_and, and_self, Option.bind_some, Option.bind_none, Option.toList_some, Option.toList_none, List.cons_append, List.nil_append, mset_at, mset_ne, mset_2, mset_mset, Nat.reduceLT, Nat.reduceAdd, M_60, M_70, d9, hmlots _ _ _ _ hC, nI_ltI, hl, alK_l2, s2, hml]
      rcases firstF_val (P := Q) lr 0 with hf | ⟨k, _, hk, hf, hQk⟩
      · rw [hf] at hlv hpre
        refine ⟨-12, tick, mf, af, lf, nr, nf, st, fun u v A τ hC hP => ?_, fun u v A τ hC hP => ?_, hJ⟩
        · simp (disch := first | omega | assumption | exact Nat.le_of_ble_eq_true rfl) only [m111, e111_0, e111_1, e111_4, e111_7, e111_8, e111_11, e111_14, e111_15, e111_18, e111_21, e111_22, e111_23, e111_24, e111_27, e111_30, e111_32, e111_33, e111_34, e111_37, e111_40, e111_41, e111_42, e111_44, e111_45, e111_48, e111_49, e111_50, e111_53, e111_56, e111_57, e111_58, e111_61, e111_62, e111_65, e111_68, e111_69i, e111_69n, e111_69r, e111_71, e111_72, e111_73, e111_75, e111_76, e111_79i, e111_79n, e111_79r, e111_81, e111_83, e111_86, e111_88, e111_90, e111_91, e111_92, e111_93, e111_94, e111_95, e111_97, e111_98, e111_101, e111_103, m112, e112_0, e112_1, e112_4, e112_7, e112_8, e112_9, e112_12, e112_13, e112_16, e112_19, e112_20, e112_21, e112_24, e112_25, e112_28, e112_31, e112_32, e112_33, e112_34, e112_37, e112_38, e112_39, e112_42, e112_45, e112_46, e112_47, e112_48, e112_49, e112_52, e112_55, e112_56, e112_59, e112_62, e112_63, e112_64, e112_67, e112_70, e112_71, e112_72, e112_73, e112_76, e112_77, e112_80, e112_83, e112_84, e112_85, e112_88, e112_89, e112_90, e112_93, e112_96, e112_99, e112_100, e112_101, e112_102, e112_105, e112_108, e112_111, e112_114, e112_115, e112_118, e112_119, Bool.false_eq_true, Bool.true_eq_false, gfK, pfK, lnK, isC, alK_n, asK_n, List.getElem?_cons_zero, List.getElem?_cons_succ, List.set_cons_zero, List.set_cons_succ, List.length_cons, List.length_nil, ↓reduceIte, if_true, if_false, eq_self, and_true, true_and, and_self, Option.bind_some, Option.bind_none, Option.toList_some, Option.toList_none, List.cons_append, List.nil_append, mset_at, mset_ne, mset_2, mset_mset, Nat.reduceLT, Nat.reduceAdd, B_0, B_W0 hb, B_30, B_S30, mTR, aTR, lTR, nTR, nz1, R_isDoing hd, aGet_0 c3 hm, e0', nI_ltI, hlots _ _ _ _ hC, hl, hlv, show ¬ (0 : Int32) ≤ -9 from by decide, show ¬ (2 : Int32) = 0 from by decide, show (-10 : Int32) - 2 = -12 from by decide]
        · rw [hpre u v A τ hC]
          simp (disch := first | omega | assumption | exact Nat.le_of_ble_eq_true rfl) only [m192, e192_179, e192_181, e192_183, e192_186, e192_188, Bool.false_eq_true, Bool.true_eq_false, gfK, pfK, lnK, isC, alK_n, asK_n, List.getElem?_cons_zero, List.getElem?_cons_succ, List.set_cons_zero, List.set_cons_succ, List.length_cons, List.length_nil, ↓reduceIte, if_true, if_false, eq_self, and_true, true_and, and_self, Option.bind_some, Option.bind_none, Option.toList_some, Option.toList_none, List.cons_append, List.nil_append, mset_at, mset_ne, mset_2, mset_mset, Nat.reduceLT, Nat.reduceAdd, M_60]
      · rw [hf] at hlv hpre
        have hk : k < lr := by omega
        have k9 := nI_m9 (n := k) (by omega)
        have hkd := hB d hd
        have hask := fun u v A τ (hP : PKc pr kd A) => R_needsYes (b := b) (u := u) (v := v) (A := A) (τ := τ) (tick := tick) (kept := kept) (mr := mr) (mf := mf) (ar := ar) (af := af) (lr := lr) (lf := lf) (nr := nr) (nf := nf) (kd := kd) (fun d hd => (hP d hd).2) hkd.2 hd
        have hmask := fun σ => V_isAsked (σ := σ) hkd.2
        have a2' := a2.trans fy
        by_cases hno : askP (kd d) = true ∧ y = 0
        · obtain ⟨ha, rfl⟩ := hno
          rw [ha, bI_t] at hask hmask
          refine ⟨-13, tick, mf, af, lf, nr, nf, st, fun u v A τ hC hP => ?_, fun u v A τ hC hP => ?_, hJ⟩
          · simp (disch := first | omega | assumption | exact Nat.le_of_ble_eq_true rfl) only [m111, e111_0, e111_1, e111_4, e111_7, e111_8, e111_11, e111_14, e111_15, e111_18, e111_21, e111_22, e111_23, e111_24, e111_27, e111_30, e111_32, e111_33, e111_34, e111_37, e111_40, e111_41, e111_42, e111_44, e111_45, e111_48, e111_49, e111_50, e111_53, e111_56, e111_57, e111_58, e111_61, e111_62, e111_65, e111_68, e111_69i, e111_69n, e111_69r, e111_71, e111_72, e111_73, e111_75, e111_76, e111_79i, e111_79n, e111_79r, e111_81, e111_83, e111_86, e111_88, e111_90, e111_91, e111_92, e111_93, e111_94, e111_95, e111_97, e111_98, e111_101, e111_103, m112, e112_0, e112_1, e112_4, e112_7, e112_8, e112_9, e112_12, e112_13, e112_16, e112_19, e112_20, e112_21, e112_24, e112_25, e112_28, e112_31, e112_32, e112_33, e112_34, e112_37, e112_38, e112_39, e112_42, e112_45, e112_46, e112_47, e112_48, e112_49, e112_52, e112_55, e112_56, e112_59, e112_62, e112_63, e112_64, e112_67, e112_70, e112_71, e112_72, e112_73, e112_76, e112_77, e112_80, e112_83, e112_84, e112_85, e112_88, e112_89, e112_90, e112_93, e112_96, e112_99, e112_100, e112_101, e112_102, e112_105, e112_108, e112_111, e112_114, e112_115, e112_118, e112_119, Bool.false_eq_true, Bool.true_eq_false, gfK, pfK, lnK, isC, alK_n, asK_n, List.getElem?_cons_zero, List.getElem?_cons_succ, List.set_cons_zero, List.set_cons_succ, List.length_cons, List.length_nil, ↓reduceIte, if_true, if_false, eq_self, and_true, true_and, and_self, Option.bind_some, Option.bind_none, Option.toList_some, Option.toList_none, List.cons_append, List.nil_append, mset_at, mset_ne, mset_2, mset_mset, Nat.reduceLT, Nat.reduceAdd, B_0, B_W0 hb, B_30, B_S30, mTR, aTR, lTR, nTR, nz1, R_isDoing hd, aGet_0 c3 hm, e0', nI_ltI, hlots _ _ _ _ hC, hl, hlv, nI_0_le, hask _ _ _ _ hP, aGet_2 c3 hm, a2', show ¬ (0 : Int32) < nI 0 from by decide, show ¬ (3 : Int32) = 0 from by decide, show (-10 : Int32) - 3 = -13 from by decide]
          · have hkA := (hP d hd).2
            rw [hpre u v A τ hC]
            simp (disch := first | omega | assumption | exact Nat.le_of_ble_eq_true rfl) only [m192, e192_179, e192_181, e192_183, e192_186, e192_188, e192_189, e192_190, e192_193, e192_195, e192_196, e192_199, e192_202, e192_203, e192_206, e192_208, e192_209, e192_210, e192_211, e192_214, e192_216, Bool.false_eq_true, Bool.true_eq_false, gfK, pfK, lnK, isC, alK_n, asK_n, List.getElem?_cons_zero, List.getElem?_cons_succ, List.set_cons_zero, List.set_cons_succ, List.length_cons, List.length_nil, ↓reduceIte, if_true, if_false, eq_self, and_true, true_and, and_self, Option.bind_some, Option.bind_none, Option.toList_some, Option.toList_none, List.cons_append, List.nil_append, mset_at, mset_ne, mset_2, mset_mset, Nat.reduceLT, Nat.reduceAdd, M_60, M_68, M_70, k9, hkA, hmask, nz1, ra_3, fy, z0t]
        · obtain ⟨Lm, L1, L2, L3⟩ := JB_m jm hn c2
          have hLm := ch_lt Lm _ L2
          have a1' := a1.trans fn
          have hcs := fun u v A τ => B_canSpend (b := b) (u := u) (v := v) (A := A) (τ := τ) (tick := tick) (kept := kept) (ar := ar) (af := af) (lr := lr) (lf := lf) (nr := nr) (nf := nf) (a := nI (dueN (kd d) (pr d))) c2 L1 L3
          have hmcs := fun u v A τ => M_has (b := b) (u := u) (v := v) (A := A) (τ := τ) (s := st) (y := nI (dueN (kd d) (pr d))) (m := m) (L := Lm) c2 hm4 (fn.symm ▸ L2)
          have hallc : Lm.all (fun j => decide (mf (j * 3 + 2) + nI (dueN (kd d) (pr d)) ≤ mf (j * 3 + 1))) = Lm.all (fun j => decide (st (5 + 3 * j + 2) + nI (dueN (kd d) (pr d)) ≤ st (5 + 3 * j + 1))) := all_congr Lm fun j hj => by
            obtain ⟨g0, g1, g2⟩ := jm.1 j (hLm j hj)
            rw [g1, g2]
          rw [hallc] at hcs
          have hdue := fun u v A τ (hP : PKc pr kd A) => R_dueNow (b := b) (u := u) (v := v) (A := A) (τ := τ) (tick := tick) (kept := kept) (mr := mr) (mf := mf) (ar := ar) (af := af) (lr := lr) (lf := lf) (nr := nr) (nf := nf) hP hB hd
          have hmdue : ∀ u v A τ, PKm pr kd A → evM 175 [.ref 60, .int (nI (kd d)), .int (nI d)] (MS b u v A τ st) = some (some (.int (nI (dueN (kd d) (pr d)))), (MS b u v A τ st)) := fun u v A τ hP => V_dueOf (b := b) (u := u) (v := v) (A := up A 70 st) (τ := τ) (show kd d < 6 by omega) hd hkd.1 (by rw [up_ne (by omega)]; exact (hP d hd).1)
          obtain ⟨al, hal⟩ : ∃ al, al = Lm.all (fun j => decide (st (5 + 3 * j + 2) + nI (dueN (kd d) (pr d)) ≤ st (5 + 3 * j + 1))) := ⟨_, rfl⟩
          rw [← hal] at hcs hmcs
          -- the class up to the fourth ground, the model up to the fourth ground
          have hgo : ∀ u v A τ, CW A b lc lt → PKc pr kd A → evM 112 [.ref 0, .int (nI m), .int (nI d), .int (nI l)] (BS b u v A τ tick kept mr mf ar af lr lf nr nf) = if al = true then (if nr < 60 then some (some (.int 0), (BS b u v A τ tick kept mr mf ar af lr lf nr nf)) else some (some (.int 5), (BS b u v A τ tick kept mr mf ar af lr lf nr nf))) else some (some (.int 4), (BS b u v A τ tick kept mr mf ar af lr lf nr nf)) := fun u v A τ hC hP => by
            have hf := nFull (b := b) (u := u) (v := v) (A := A) (τ := τ) (tick := tick) (kept := kept) (mr := mr) (mf := mf) (ar := ar) (af := af) (lr := lr) (lf := lf) (nf := nf) c5
            have hcs := hcs u v A τ
            have hy0 : askP (kd d) = true → (0 : Int32) < nI y := fun g => by
              rw [lt0_nI (by omega)]
              have : ¬ y = 0 := fun q => hno ⟨g, q⟩
              omega
            have hask := hask u v A τ hP
            cases al
            · cases ha : askP (kd d)
              · rw [ha] at hask
                simp (disch := first | omega | assumption | exact Nat.le_of_ble_eq_true rfl) only [m112, e112_0, e112_1, e112_4, e112_7, e112_8, e112_9, e112_12, e112_13, e112_16, e112_19, e112_20, e112_21, e112_24, e112_25, e112_28, e112_31, e112_32, e112_33, e112_34, e112_37, e112_38, e112_39, e112_42, e112_45, e112_46, e112_47, e112_48, e112_49, e112_52, e112_55, e112_56, e112_59, e112_62, e112_63, e112_64, e112_67, e112_70, e112_71, e112_72, e112_73, e112_76, e112_77, e112_80, e112_83, e112_84, e112_85, e112_88, e112_89, e112_90, e112_93, e112_96, e112_99, e112_100, e112_101, e112_102, e112_105, e112_108, e112_111, e112_114, e112_115, e112_118, e112_119, Bool.false_eq_true, Bool.true_eq_false, gfK, pfK, lnK, isC, alK_n, asK_n, List.getElem?_cons_zero, List.getElem?_cons_succ, List.set_cons_zero, List.set_cons_succ, List.length_cons, List.length_nil, ↓reduceIte, if_true, if_false, eq_self, and_true, true_and, and_self, Option.bind_some, Option.bind_none, Option.toList_some, Option.toList_none, List.cons_append, List.nil_append, mset_at, mset_ne, mset_2, mset_mset, Nat.reduceLT, Nat.reduceAdd, B_0, B_W0 hb, B_30, B_S30, mTR, aTR, lTR, nTR, nz1, R_isDoing hd, aGet_0 c3 hm, e0', nI_ltI, hlots _ _ _ _ hC, hl, hlv, nI_0_le, hask, bI_f, aGet_1 c3 hm, a1', hdue _ _ _ _ hP, hcs]
              · rw [ha] at hask
                simp (disch := first | omega | assumption | exact Nat.le_of_ble_eq_true rfl) only [m112, e112_0, e112_1, e112_4, e112_7, e112_8, e112_9, e112_12, e112_13, e112_16, e112_19, e112_20, e112_21, e112_24, e112_25, e112_28, e112_31, e112_32, e112_33, e112_34, e112_37, e112_38, e112_39, e112_42, e112_45, e112_46, e112_47, e112_48, e112_49, e112_52, e112_55, e112_56, e112_59, e112_62, e112_63, e112_64, e112_67, e112_70, e112_71, e112_72, e112_73, e112_76, e112_77, e112_80, e112_83, e112_84, e112_85, e112_88, e112_89, e112_90, e112_93, e112_96, e112_99, e112_100, e112_101, e112_102, e112_105, e112_108, e112_111, e112_114, e112_115, e112_118, e112_119, Bool.false_eq_true, Bool.true_eq_false, gfK, pfK, lnK, isC, alK_n, asK_n, List.getElem?_cons_zero, List.getElem?_cons_succ, List.set_cons_zero, List.set_cons_succ, List.length_cons, List.length_nil, ↓reduceIte, if_true, if_false, eq_self, and_true, true_and, and_self, Option.bind_some, Option.bind_none, Option.toList_some, Option.toList_none, List.cons_append, List.nil_append, mset_at, mset_ne, mset_2, mset_mset, Nat.reduceLT, Nat.reduceAdd, B_0, B_W0 hb, B_30, B_S30, mTR, aTR, lTR, nTR, nz1, R_isDoing hd, aGet_0 c3 hm, e0', nI_ltI, hlots _ _ _ _ hC, hl, hlv, nI_0_le, hask, bI_t, aGet_2 c3 hm, a2', hy0 ha, aGet_1 c3 hm, a1', hdue _ _ _ _ hP, hcs]
            · by_cases h60 : nr < 60
              · rw [if_pos h60] at hf
                cases ha : askP (kd d)
                · rw [ha] at hask
                  simp (disch := first | omega | assumption | exact Nat.le_of_ble_eq_true rfl) only [m112, e112_0, e112_1, e112_4, e112_7, e112_8, e112_9, e112_12, e112_13, e112_16, e112_19, e112_20, e112_21, e112_24, e112_25, e112_28, e112_31, e112_32, e112_33, e112_34, e112_37, e112_38, e112_39, e112_42, e112_45, e112_46, e112_47, e112_48, e112_49, e112_52, e112_55, e112_56, e112_59, e112_62, e112_63, e112_64, e112_67, e112_70, e112_71, e112_72, e112_73, e112_76, e112_77, e112_80, e112_83, e112_84, e112_85, e112_88, e112_89, e112_90, e112_93, e112_96, e112_99, e112_100, e112_101, e112_102, e112_105, e112_108, e112_111, e112_114, e112_115, e112_118, e112_119, Bool.false_eq_true, Bool.true_eq_false, gfK, pfK, lnK, isC, alK_n, asK_n, List.getElem?_cons_zero, List.getElem?_cons_succ, List.set_cons_zero, List.set_cons_succ, List.length_cons, List.length_nil, ↓reduceIte, if_true, if_false, eq_self, and_true, true_and, and_self, Option.bind_some, Option.bind_none, Option.toList_some, Option.toList_none, List.cons_append, List.nil_append, mset_at, mset_ne, mset_2, mset_mset, Nat.reduceLT, Nat.reduceAdd, B_0, B_W0 hb, B_30, B_S30, mTR, aTR, lTR, nTR, nz1, R_isDoing hd, aGet_0 c3 hm, e0', nI_ltI, hlots _ _ _ _ hC, hl, hlv, nI_0_le, hask, bI_f, aGet_1 c3 hm, a1', hdue _ _ _ _ hP, hcs, hf, h60]
                · rw [ha] at hask
                  simp (disch := first | omega | assumption | exact Nat.le_of_ble_eq_true rfl) only [m112, e112_0, e112_1, e112_4, e112_7, e112_8, e112_9, e112_12, e112_13, e112_16, e112_19, e112_20, e112_21, e112_24, e112_25, e112_28, e112_31, e112_32, e112_33, e112_34, e112_37, e112_38, e112_39, e112_42, e112_45, e112_46, e112_47, e112_48, e112_49, e112_52, e112_55, e112_56, e112_59, e112_62, e112_63, e112_64, e112_67, e112_70, e112_71, e112_72, e112_73, e112_76, e112_77, e112_80, e112_83, e112_84, e112_85, e112_88, e112_89, e112_90, e112_93, e112_96, e112_99, e112_100, e112_101, e112_102, e112_105, e112_108, e112_111, e112_114, e112_115, e112_118, e112_119, Bool.false_eq_true, Bool.true_eq_false, gfK, pfK, lnK, isC, alK_n, asK_n, List.getElem?_cons_zero, List.getElem?_cons_succ, List.set_cons_zero, List.set_cons_succ, List.length_cons, List.length_nil, ↓reduceIte, if_true, if_false, eq_self, and_true, true_and, and_self, Option.bind_some, Option.bind_none, Option.toList_some, Option.toList_none, List.cons_append, List.nil_append, mset_at, mset_ne, mset_2, mset_mset, Nat.reduceLT, Nat.reduceAdd, B_0, B_W0 hb, B_30, B_S30, mTR, aTR, lTR, nTR, nz1, R_isDoing hd, aGet_0 c3 hm, e0', nI_ltI, hlots _ _ _ _ hC, hl, hlv, nI_0_le, hask, bI_t, aGet_2 c3 hm, a2', hy0 ha, aGet_1 c3 hm, a1', hdue _ _ _ _ hP, hcs, hf, h60]
              · rw [if_neg h60] at hf
                cases ha : askP (kd d)
                · rw [ha] at hask
                  simp (disch := first | omega | assumption | exact Nat.le_of_ble_eq_true rfl) only [m112, e112_0, e112_1, e112_4, e112_7, e112_8, e112_9, e112_12, e112_13, e112_16, e112_19, e112_20, e112_21, e112_24, e112_25, e112_28, e112_31, e112_32, e112_33, e112_34, e112_37, e112_38, e112_39, e112_42, e112_45, e112_46, e112_47, e112_48, e112_49, e112_52, e112_55, e112_56, e112_59, e112_62, e112_63, e112_64, e112_67, e112_70, e112_71, e112_72, e112_73, e112_76, e112_77, e112_80, e112_83, e112_84, e112_85, e112_88, e112_89, e112_90, e112_93, e112_96, e112_99, e112_100, e112_101, e112_102, e112_105, e112_108, e112_111, e112_114, e112_115, e112_118, e112_119, Bool.false_eq_true, Bool.true_eq_false, gfK, pfK, lnK, isC, alK_n, asK_n, List.getElem?_cons_zero, List.getElem?_cons_succ, List.set_cons_zero, List.set_cons_succ, List.length_cons, List.length_nil, ↓reduceIte, if_true, if_false, eq_self, and_true, true_and, and_self, Option.bind_some, Option.bind_none, Option.toList_some, Option.toList_none, List.cons_append, List.nil_append, mset_at, mset_ne, mset_2, mset_mset, Nat.reduceLT, Nat.reduceAdd, B_0, B_W0 hb, B_30, B_S30, mTR, aTR, lTR, nTR, nz1, R_isDoing hd, aGet_0 c3 hm, e0', nI_ltI, hlots _ _ _ _ hC, hl, hlv, nI_0_le, hask, bI_f, aGet_1 c3 hm, a1', hdue _ _ _ _ hP, hcs, hf, h60]
                · rw [ha] at hask
                  simp (disch := first | omega | assumption | exact Nat.le_of_ble_eq_true rfl) only [m112, e112_0, e112_1, e112_4, e112_7, e112_8, e112_9, e112_12, e112_13, e112_16, e112_19, e112_20, e112_21, e112_24, e112_25, e112_28, e112_31, e112_32, e112_33, e112_34, e112_37, e112_38, e112_39, e112_42, e112_45, e112_46, e112_47, e112_48, e112_49, e112_52, e112_55, e112_56, e112_59, e112_62, e112_63, e112_64, e112_67, e112_70, e112_71, e112_72, e112_73, e112_76, e112_77, e112_80, e112_83, e112_84, e112_85, e112_88, e112_89, e112_90, e112_93, e112_96, e112_99, e112_100, e112_101, e112_102, e112_105, e112_108, e112_111, e112_114, e112_115, e112_118, e112_119, Bool.false_eq_true, Bool.true_eq_false, gfK, pfK, lnK, isC, alK_n, asK_n, List.getElem?_cons_zero, List.getElem?_cons_succ, List.set_cons_zero, List.set_cons_succ, List.length_cons, List.length_nil, ↓reduceIte, if_true, if_false, eq_self, and_true, true_and, and_self, Option.bind_some, Option.bind_none, Option.toList_some, Option.toList_none, List.cons_append, List.nil_append, mset_at, mset_ne, mset_2, mset_mset, Nat.reduceLT, Nat.reduceAdd, B_0, B_W0 hb, B_30, B_S30, mTR, aTR, lTR, nTR, nz1, R_isDoing hd, aGet_0 c3 hm, e0', nI_ltI, hlots _ _ _ _ hC, hl, hlv, nI_0_le, hask, bI_t, aGet_2 c3 hm, a2', hy0 ha, aGet_1 c3 hm, a1', hdue _ _ _ _ hP, hcs, hf, h60]
          have hmgo : ∀ u v A τ, MW A lc lt → PKm pr kd A → ev 192 79 [some (.ref 60), some (.int (nI m)), some (.int (nI q)), some (.int (nI l)), some (.int w), some (.int (nI (29 + 4 * m))), some (.int (nI t)), some (.int (nI d)), none, none, none] [] (MS b u v A τ st) = ev 192 239 [some (.ref 60), some (.int (nI m)), some (.int (nI q)), some (.int (nI l)), some (.int w), some (.int (nI (29 + 4 * m))), some (.int (nI t)), some (.int (nI d)), some (.int (nI k)), some (.int (nI (dueN (kd d) (pr d)))), none] [.int (if al = true then 1 else 0)] (MS b u v A τ st) := fun u v A τ hC hP => by
            have hkA := (hP d hd).2
            have hmcs := hmcs u v A τ
            rw [hpre u v A τ hC]
            have hy0 : askP (kd d) = true → ¬ nI y = 0 := fun g q => hno ⟨g, nI_inj (by omega) (by omega) q⟩
            cases ha : askP (kd d)
            · rw [ha] at hmask
              simp (disch := first | omega | assumption | exact Nat.le_of_ble_eq_true rfl) only [m192, e192_179, e192_181, e192_183, e192_186, e192_188, e192_189, e192_190, e192_193, e192_195, e192_196, e192_199, e192_202, e192_203, e192_206, e192_208, e192_209, e192_210, e192_211, e192_214, e192_216, e192_217, e192_218, e192_219, e192_222, e192_224, e192_225, e192_227, e192_230i, e192_230n, e192_230r, e192_232, e192_233, e192_234, e192_236, Bool.false_eq_true, Bool.true_eq_false, gfK, pfK, lnK, isC, alK_n, asK_n, List.getElem?_cons_zero, List.getElem?_cons_succ, List.set_cons_zero, List.set_cons_succ, List.length_cons, List.length_nil, ↓reduceIte, if_true, if_false, eq_self, and_true, true_and, and_self, Option.bind_some, Option.bind_none, Option.toList_some, Option.toList_none, List.cons_append, List.nil_append, mset_at, mset_ne, mset_2, mset_mset, Nat.reduceLT, Nat.reduceAdd, M_60, M_68, M_70, k9, hkA, hmask, bI_f, hmdue _ _ _ _ hP, hmcs]
            · rw [ha] at hmask
              simp (disch := first | omega | assumption | exact Nat.le_of_ble_eq_true rfl) only [m192, e192_179, e192_181, e192_183, e192_186, e192_188, e192_189, e192_190, e192_193, e192_195, e192_196, e192_199, e192_202, e192_203, e192_206, e192_208, e192_209, e192_210, e192_211, e192_214, e192_216, e192_217, e192_218, e192_219, e192_222, e192_224, e192_225, e192_227, e192_230i, e192_230n, e192_230r, e192_232, e192_233, e192_234, e192_236, Bool.false_eq_true, Bool.true_eq_false, gfK, pfK, lnK, isC, alK_n, asK_n, List.getElem?_cons_zero, List.getElem?_cons_succ, List.set_cons_zero, List.set_cons_succ, List.length_cons, List.length_nil, ↓reduceIte, if_true, if_false, eq_self, and_true, true_and, and_self, Option.bind_some, Option.bind_none, Option.toList_some, Option.toList_none, List.cons_append, List.nil_append, mset_at, mset_ne, mset_2, mset_mset, Nat.reduceLT, Nat.reduceAdd, M_60, M_68, M_70, k9, hkA, hmask, bI_t, nz1, ra_3, fy, hy0 ha, hmdue _ _ _ _ hP, hmcs]
          cases al
          · refine ⟨-14, tick, mf, af, lf, nr, nf, st, fun u v A τ hC hP => ?_, fun u v A τ hC hP => ?_, hJ⟩
            · have hgo := hgo u v A τ hC hP
              simp (disch := first | omega | assumption | exact Nat.le_of_ble_eq_true rfl) only [m111, e111_0, e111_1, e111_4, e111_7, e111_8, e111_11, e111_14, e111_15, e111_18, e111_21, e111_22, e111_23, e111_24, e111_27, e111_30, e111_32, e111_33, e111_34, e111_37, e111_40, e111_41, e111_42, e111_44, e111_45, e111_48, e111_49, e111_50, e111_53, e111_56, e111_57, e111_58, e111_61, e111_62, e111_65, e111_68, e111_69i, e111_69n, e111_69r, e111_71, e111_72, e111_73, e111_75, e111_76, e111_79i, e111_79n, e111_79r, e111_81, e111_83, e111_86, e111_88, e111_90, e111_91, e111_92, e111_93, e111_94, e111_95, e111_97, e111_98, e111_101, e111_103, Bool.false_eq_true, Bool.true_eq_false, gfK, pfK, lnK, isC, alK_n, asK_n, List.getElem?_cons_zero, List.getElem?_cons_succ, List.set_cons_zero, List.set_cons_succ, List.length_cons, List.length_nil, ↓reduceIte, if_true, if_false, eq_self, and_true, true_and, and_self, Option.bind_some, Option.bind_none, Option.toList_some, Option.toList_none, List.cons_append, List.nil_append, mset_at, mset_ne, mset_2, mset_mset, Nat.reduceLT, Nat.reduceAdd, B_0, hgo, show ¬ (4 : Int32) = 0 from by decide, show (-10 : Int32) - 4 = -14 from by decide]
            · rw [hmgo u v A τ hC hP]
              simp (disch := first | omega | assumption | exact Nat.le_of_ble_eq_true rfl) only [m192, e192_239, e192_242, e192_244, Bool.false_eq_true, Bool.true_eq_false, gfK, pfK, lnK, isC, alK_n, asK_n, List.getElem?_cons_zero, List.getElem?_cons_succ, List.set_cons_zero, List.set_cons_succ, List.length_cons, List.length_nil, ↓reduceIte, if_true, if_false, eq_self, and_true, true_and, and_self, Option.bind_some, Option.bind_none, Option.toList_some, Option.toList_none, List.cons_append, List.nil_append, mset_at, mset_ne, mset_2, mset_mset, Nat.reduceLT, Nat.reduceAdd, M_60]
          · by_cases h60 : nr < 60
            · have hto := (hW (t * 8 + d) (by omega)).2 l hl
              refine ⟨nI d, tick + 1, addL 3 2 (nI (dueN (kd d) (pr d))) Lm mf, afA af m (askP (kd d)) (nI (lt (t * 8 + d) l)), addL 8 2 (-1) (Ls k) lf, nr + 1, nfA nf nr tick m q d t (nI (lt (t * 8 + d) l)) (nI k) (nI (dueN (kd d) (pr d))) l, stA (stA1 st m (askP (kd d)) (Ls k) Lm (nI (dueN (kd d) (pr d))) (nI (lt (t * 8 + d) l))) nr tick m q d t (nI (lt (t * 8 + d) l)) (nI k) (nI (dueN (kd d) (pr d))) l, fun u v A τ hC hP => ?_, fun u v A τ hC hP => ?_, JB_act hJ h60 hm ht hq hd hl4 hk hto hLm (ch_lt (Ls k) _ (hL k hk).1) fy hy9 (fun g => by have : ¬ y = 0 := fun q => hno ⟨g, q⟩; omega)⟩
              · have hgo := hgo u v A τ hC hP
                have hpf := R_perform (b := b) (u := u) (v := v) (A := A) (τ := τ) (tick := tick) (kept := kept) (q := q) (t := t) (l := l) (Lm := Lm) hb hC hW hP hB c2 c3 c4 h60 hm ht hd hl e0' (a1'.symm ▸ L1) L3 (hlv u v A τ) (hL k hk).1 (hL k hk).2.2
                simp (disch := first | omega | assumption | exact Nat.le_of_ble_eq_true rfl) only [m111, e111_0, e111_1, e111_4, e111_7, e111_8, e111_11, e111_14, e111_15, e111_18, e111_21, e111_22, e111_23, e111_24, e111_27, e111_30, e111_32, e111_33, e111_34, e111_37, e111_40, e111_41, e111_42, e111_44, e111_45, e111_48, e111_49, e111_50, e111_53, e111_56, e111_57, e111_58, e111_61, e111_62, e111_65, e111_68, e111_69i, e111_69n, e111_69r, e111_71, e111_72, e111_73, e111_75, e111_76, e111_79i, e111_79n, e111_79r, e111_81, e111_83, e111_86, e111_88, e111_90, e111_91, e111_92, e111_93, e111_94, e111_95, e111_97, e111_98, e111_101, e111_103, Bool.false_eq_true, Bool.true_eq_false, gfK, pfK, lnK, isC, alK_n, asK_n, List.getElem?_cons_zero, List.getElem?_cons_succ, List.set_cons_zero, List.set_cons_succ, List.length_cons, List.length_nil, ↓reduceIte, if_true, if_false, eq_self, and_true, true_and, and_self, Option.bind_some, Option.bind_none, Option.toList_some, Option.toList_none, List.cons_append, List.nil_append, mset_at, mset_ne, mset_2, mset_mset, Nat.reduceLT, Nat.reduceAdd, B_0, hgo, h60, hpf]
              · rw [hmgo u v A τ hC hP]
                have hpf := mperform (b := b) (u := u) (v := v) (A := A) (τ := τ) (w := w) (q := q) (l10 := none) (x5 := 0) (x6 := 0) (x9 := nI (dueN (kd d) (pr d))) (Lm := Lm) (Lk := Ls k) hC hW hP hB c2 c4 h60 hm4 ht hd hl s3 s4 (fn.symm ▸ L2) (hL k hk).2.1
                have hne : ¬ nr = 60 := by omega
                simp (disch := first | omega | assumption | exact Nat.le_of_ble_eq_true rfl) only [m192, e192_239, e192_242, e192_244, e192_245, e192_246, e192_249, e192_250, e192_251, e192_253, e192_256, Bool.false_eq_true, Bool.true_eq_false, gfK, pfK, lnK, isC, alK_n, asK_n, List.getElem?_cons_zero, List.getElem?_cons_succ, List.set_cons_zero, List.set_cons_succ, List.length_cons, List.length_nil, ↓reduceIte, if_true, if_false, eq_self, and_true, true_and, and_self, Option.bind_some, Option.bind_none, Option.toList_some, Option.toList_none, List.cons_append, List.nil_append, mset_at, mset_ne, mset_2, mset_mset, Nat.reduceLT, Nat.reduceAdd, M_60, M_70, nz1, alK_l3, s3, lt_ne60, hne, hpf]
            · have h60' : nr = 60 := by omega
              refine ⟨-15, tick, mf, af, lf, nr, nf, st, fun u v A τ hC hP => ?_, fun u v A τ hC hP => ?_, hJ⟩
              · have hgo := hgo u v A τ hC hP
                simp (disch := first | omega | assumption | exact Nat.le_of_ble_eq_true rfl) only [m111, e111_0, e111_1, e111_4, e111_7, e111_8, e111_11, e111_14, e111_15, e111_18, e111_21, e111_22, e111_23, e111_24, e111_27, e111_30, e111_32, e111_33, e111_34, e111_37, e111_40, e111_41, e111_42, e111_44, e111_45, e111_48, e111_49, e111_50, e111_53, e111_56, e111_57, e111_58, e111_61, e111_62, e111_65, e111_68, e111_69i, e111_69n, e111_69r, e111_71, e111_72, e111_73, e111_75, e111_76, e111_79i, e111_79n, e111_79r, e111_81, e111_83, e111_86, e111_88, e111_90, e111_91, e111_92, e111_93, e111_94, e111_95, e111_97, e111_98, e111_101, e111_103, Bool.false_eq_true, Bool.true_eq_false, gfK, pfK, lnK, isC, alK_n, asK_n, List.getElem?_cons_zero, List.getElem?_cons_succ, List.set_cons_zero, List.set_cons_succ, List.length_cons, List.length_nil, ↓reduceIte, if_true, if_false, eq_self, and_true, true_and, and_self, Option.bind_some, Option.bind_none, Option.toList_some, Option.toList_none, List.cons_append, List.nil_append, mset_at, mset_ne, mset_2, mset_mset, Nat.reduceLT, Nat.reduceAdd, B_0, hgo, h60, show ¬ (5 : Int32) = 0 from by decide, show (-10 : Int32) - 5 = -15 from by decide]
              · rw [hmgo u v A τ hC hP]
                simp (disch := first | omega | assumption | exact Nat.le_of_ble_eq_true rfl) only [m192, e192_239, e192_242, e192_244, e192_245, e192_246, e192_249, e192_250, e192_251, e192_253, e192_256, e192_258, Bool.false_eq_true, Bool.true_eq_false, gfK, pfK, lnK, isC, alK_n, asK_n, List.getElem?_cons_zero, List.getElem?_cons_succ, List.set_cons_zero, List.set_cons_succ, List.length_cons, List.length_nil, ↓reduceIte, if_true, if_false, eq_self, and_true, true_and, and_self, Option.bind_some, Option.bind_none, Option.toList_some, Option.toList_none, List.cons_append, List.nil_append, mset_at, mset_ne, mset_2, mset_mset, Nat.reduceLT, Nat.reduceAdd, M_60, M_70, nz1, alK_l3, s3, lt_ne60, eq_true h60']
    · refine ⟨-11, tick, mf, af, lf, nr, nf, st, fun u v A τ hC hP => ?_, fun u v A τ hC hP => ?_, hJ⟩
      · simp (disch := first | omega | assumption | exact Nat.le_of_ble_eq_true rfl) only [m111, e111_0, e111_1, e111_4, e111_7, e111_8, e111_11, e111_14, e111_15, e111_18, e111_21, e111_22, e111_23, e111_24, e111_27, e111_30, e111_32, e111_33, e111_34, e111_37, e111_40, e111_41, e111_42, e111_44, e111_45, e111_48, e111_49, e111_50, e111_53, e111_56, e111_57, e111_58, e111_61, e111_62, e111_65, e111_68, e111_69i, e111_69n, e111_69r, e111_71, e111_72, e111_73, e111_75, e111_76, e111_79i, e111_79n, e111_79r, e111_81, e111_83, e111_86, e111_88, e111_90, e111_91, e111_92, e111_93, e111_94, e111_95, e111_97, e111_98, e111_101, e111_103, m112, e112_0, e112_1, e112_4, e112_7, e112_8, e112_9, e112_12, e112_13, e112_16, e112_19, e112_20, e112_21, e112_24, e112_25, e112_28, e112_31, e112_32, e112_33, e112_34, e112_37, e112_38, e112_39, e112_42, e112_45, e112_46, e112_47, e112_48, e112_49, e112_52, e112_55, e112_56, e112_59, e112_62, e112_63, e112_64, e112_67, e112_70, e112_71, e112_72, e112_73, e112_76, e112_77, e112_80, e112_83, e112_84, e112_85, e112_88, e112_89, e112_90, e112_93, e112_96, e112_99, e112_100, e112_101, e112_102, e112_105, e112_108, e112_111, e112_114, e112_115, e112_118, e112_119, Bool.false_eq_true, Bool.true_eq_false, gfK, pfK, lnK, isC, alK_n, asK_n, List.getElem?_cons_zero, List.getElem?_cons_succ, List.set_cons_zero, List.set_cons_succ, List.length_cons, List.length_nil, ↓reduceIte, if_true, if_false, eq_self, and_true, true_and, and_self, Option.bind_some, Option.bind_none, Option.toList_some, Option.toList_none, List.cons_append, List.nil_append, mset_at, mset_ne, mset_2, mset_mset, Nat.reduceLT, Nat.reduceAdd, B_0, B_W0 hb, B_30, B_S30, mTR, aTR, lTR, nTR, nz1, R_isDoing hd, aGet_0 c3 hm, e0', nI_ltI, hlots _ _ _ _ hC, hl, show (-10 : Int32) - 1 = -11 from by decide]
      · simp (disch := first | omega | assumption | exact Nat.le_of_ble_eq_true rfl) only [m192, e192_79, e192_81, e192_83, e192_86, e192_87, e192_88, e192_90, e192_92, e192_95, e192_98, e192_100, Bool.false_eq_true, Bool.true_eq_false, gfK, pfK, lnK, isC, alK_n, asK_n, List.getElem?_cons_zero, List.getElem?_cons_succ, List.set_cons_zero, List.set_cons_succ, List.length_cons, List.length_nil, ↓reduceIte, if_true, if_false, eq_self, and_true, true_and, and_self, Option.bind_some, Option.bind_none, Option.toList_some, Option.toList_none, List.cons_append, List.nil_append, mset_at, mset_ne, mset_2, mset_mset, Nat.reduceLT, Nat.reduceAdd, M_60, d9, hmlots _ _ _ _ hC, nI_ltI, hl]
end ACT2
