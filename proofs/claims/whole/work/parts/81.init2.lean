/-! ReinHallModel.<init> (printed by gen/mk_init2.py), and the invariant at the start. -/
section INITM
variable {l : List mE} {s : Nat} {sc : Nat × (Nat → Int32)}
set_option maxRecDepth 4000 in
theorem mi_fields (hl : l.length = 60) : evM 137 [.ref 60] (HX l [.inr (8, [.int 0, .long 0, .null, .int 0, .int 0, .int 0, .int 0, .int 0, .int 0, .int 0, .null, .int 0, .int 0, .int 0, .int 0, .null, .int 0, .int 0, .null, .int 0, .int 0, .null, .null, .null, .null, .null, .null, .null, .null])] s sc) = ev 137 108 [some (.ref 60), none] [] (HX l [.inr (8, [.int 0, .long 0, .ref 61, .int 0, .int 0, .int 0, .int 0, .int 0, .int 0, .int 0, .ref 62, .int 0, .int 0, .int 65535, .int 0, .ref 63, .int 0, .int 0, .ref 64, .int 0, .int 0, .ref 65, .ref 66, .ref 67, .ref 68, .ref 69, .ref 70, .ref 71, .ref 72]), .inl (0, 600, fun _ => 0), .inl (0, 1280, fun _ => 0), .inl (0, 40, fun _ => 0), .inl (0, 3, fun _ => 0), .inl (0, 16, fun _ => 0), .inl (0, 16, fun _ => 0), .inl (0, 8, fun _ => 0), .inl (0, 8, fun _ => 0), .inl (0, 8, fun _ => 0), .inl (0, 805, fun _ => 0), .inl (0, 1610, fun _ => 0), .inl (1, 2, fun _ => 0)] (s + 600 + 1280 + 40 + 3 + 16 + 16 + 8 + 8 + 8 + 805 + 1610 + 2) sc) := by
  have hat : ∀ o r s, (HX l (o :: r) s sc).1 60 = some o := fun o r s => by rw [← hl]; exact HX_at
  have hset : ∀ o r s e, mset (HX l (o :: r) s sc) 60 e = HX l (e :: r) s sc := fun o r s e => by rw [← hl]; exact HX_set
  have hn : ∀ r s, (HX l r s sc).2.1 = 60 + r.length := fun r s => HX_n.trans (by rw [hl])
  have h600 := na_600
  have h1280 := na_1280
  have h40 := na_40
  have h3 := na_3
  have h16 := na_16
  have h8 := na_8
  have h805 := na_805
  have h1610 := na_1610
  have h2 := na_2
  simp (disch := first | omega | assumption | exact Nat.le_of_ble_eq_true rfl) only [m137, e137_0, e137_1, e137_4, e137_5, e137_8, e137_10, e137_13, e137_14, e137_17, e137_19, e137_22, e137_23, e137_25, e137_28, e137_29, e137_31, e137_33, e137_36, e137_37, e137_38, e137_40, e137_43, e137_44, e137_46, e137_48, e137_51, e137_52, e137_54, e137_56, e137_59, e137_60, e137_62, e137_64, e137_67, e137_68, e137_70, e137_72, e137_75, e137_76, e137_78, e137_80, e137_83, e137_84, e137_87, e137_89, e137_92, e137_93, e137_96, e137_98, e137_101, e137_102, e137_103, e137_105, Bool.false_eq_true, Bool.true_eq_false, gfK, pfK, lnK, isC, alK_n, asK_n, List.getElem?_cons_zero, List.getElem?_cons_succ, List.set_cons_zero, List.set_cons_succ, List.length_cons, List.length_nil, ↓reduceIte, if_true, if_false, eq_self, and_true, true_and, and_self, Option.bind_some, Option.bind_none, Option.toList_some, Option.toList_none, List.cons_append, List.nil_append, mset_at, mset_ne, mset_2, mset_mset, Nat.reduceLT, Nat.reduceAdd, hat, hset, hn, HX_new, nc_600, nc_1280, nc_40, nc_3, nc_16, nc_8, nc_805, nc_1610, nc_2]
set_option maxRecDepth 8000 in
theorem mi_cells {A : Nat → Nat → Int32} (hz : ∀ k, 60 ≤ k → A k = fun _ => 0) : HX (cellsC 8 0 0 A) [.inr (8, [.int 0, .long 0, .ref 61, .int 0, .int 0, .int 0, .int 0, .int 0, .int 0, .int 0, .ref 62, .int 0, .int 0, .int 65535, .int 0, .ref 63, .int 0, .int 0, .ref 64, .int 0, .int 0, .ref 65, .ref 66, .ref 67, .ref 68, .ref 69, .ref 70, .ref 71, .ref 72]), .inl (0, 600, fun _ => 0), .inl (0, 1280, fun _ => 0), .inl (0, 40, fun _ => 0), .inl (0, 3, fun _ => 0), .inl (0, 16, fun _ => 0), .inl (0, 16, fun _ => 0), .inl (0, 8, fun _ => 0), .inl (0, 8, fun _ => 0), .inl (0, 8, fun _ => 0), .inl (0, 805, fun _ => 0), .inl (0, 1610, fun _ => 0), .inl (1, 2, fun _ => 0)] s sc = G 8 0 0 (up A 60 (fL [0, 0, 0, 0, 0, 0, 0, 0, 0, 0, 65535, 0, 0, 0, 0, 0])) (73, s, sc) := by
  have e : cells 8 0 0 (up A 60 (fL [0, 0, 0, 0, 0, 0, 0, 0, 0, 0, 65535, 0, 0, 0, 0, 0])) = cellsC 8 0 0 A ++ [.inr (8, [.int 0, .long 0, .ref 61, .int 0, .int 0, .int 0, .int 0, .int 0, .int 0, .int 0, .ref 62, .int 0, .int 0, .int 65535, .int 0, .ref 63, .int 0, .int 0, .ref 64, .int 0, .int 0, .ref 65, .ref 66, .ref 67, .ref 68, .ref 69, .ref 70, .ref 71, .ref 72]), .inl (0, 600, A 61), .inl (0, 1280, A 62), .inl (0, 40, A 63), .inl (0, 3, A 64), .inl (0, 16, A 65), .inl (0, 16, A 66), .inl (0, 8, A 67), .inl (0, 8, A 68), .inl (0, 8, A 69), .inl (0, 805, A 70), .inl (0, 1610, A 71), .inl (1, 2, A 72)] := rfl
  rw [hz 61 (by decide), hz 62 (by decide), hz 63 (by decide), hz 64 (by decide), hz 65 (by decide), hz 66 (by decide), hz 67 (by decide), hz 68 (by decide), hz 69 (by decide), hz 70 (by decide), hz 71 (by decide), hz 72 (by decide)] at e
  unfold HX G
  rw [e]
  rfl
end INITM
section INITM2
variable {b : Nat} {u v : Int64} {A : Nat → Nat → Int32} {τ : Nat × Nat × Nat × (Nat → Int32)}
theorem mi_prices_loop : ∀ (f i : Nat) (A : Nat → Nat → Int32), i + f = 8 → (∀ j, j < i → A 67 j = 1) → ∃ A', ev 137 110 [some (.ref 60), some (.int (nI i))] [] (G b u v A τ) = ev 137 129 [some (.ref 60), some (.int (nI 8))] [] (G b u v A' τ) ∧ (∀ j, j < 8 → A' 67 j = 1) ∧ ∀ k, k ≠ 67 → A' k = A k
  | 0, i, A, hi, hz => by
    have : i = 8 := by omega
    subst this
    refine ⟨A, ?_, hz, fun k _ => rfl⟩
    rw [e137_110]
    simp (disch := first | omega | assumption | exact Nat.le_of_ble_eq_true rfl) only [m137, e137_111, e137_113, Bool.false_eq_true, Bool.true_eq_false, gfK, pfK, lnK, isC, alK_n, asK_n, List.getElem?_cons_zero, List.getElem?_cons_succ, List.set_cons_zero, List.set_cons_succ, List.length_cons, List.length_nil, ↓reduceIte, if_true, if_false, eq_self, and_true, true_and, and_self, Option.bind_some, Option.bind_none, Option.toList_some, Option.toList_none, List.cons_append, List.nil_append, mset_at, mset_ne, mset_2, mset_mset, Nat.reduceLT, Nat.reduceAdd, le_8, Nat.le_refl]
  | f + 1, i, A, hi, hz => by
    obtain ⟨A', h1, h2, h3⟩ := mi_prices_loop f (i + 1) (up A 67 (upd (A 67) i 1)) (by omega) (fun j hj => by
      rw [up_at]
      by_cases e : j = i
      · rw [e, upd_at]
      · rw [upd_ne e]
        exact hz j (by omega))
    refine ⟨A', ?_, h2, fun k a => by rw [h3 k a, up_ne a]⟩
    have h8 : ¬ 8 ≤ i := by omega
    rw [e137_110]
    simp (disch := first | omega | assumption | exact Nat.le_of_ble_eq_true rfl) only [m137, e137_111, e137_113, e137_116, e137_117, e137_120, e137_121, e137_122, e137_123i, e137_123n, e137_123r, e137_126, Bool.false_eq_true, Bool.true_eq_false, gfK, pfK, lnK, isC, alK_n, asK_n, List.getElem?_cons_zero, List.getElem?_cons_succ, List.set_cons_zero, List.set_cons_succ, List.length_cons, List.length_nil, ↓reduceIte, if_true, if_false, eq_self, and_true, true_and, and_self, Option.bind_some, Option.bind_none, Option.toList_some, Option.toList_none, List.cons_append, List.nil_append, mset_at, mset_ne, mset_2, mset_mset, Nat.reduceLT, Nat.reduceAdd, le_8, h8, G_60, G_67, S_67, nI_succ', h1]
theorem asK_l5 {α : Type} {t n : Nat} {f : Nat → Int32} {v : Int32} {K : mE → Option α} (h : 5 < n) (hn : n < 2147483648) : asK (some (.inl (t, n, f))) t 5 v K = K (.inl (t, n, upd f 5 v)) := asK_n (i := 5) h hn
theorem asK_l6 {α : Type} {t n : Nat} {f : Nat → Int32} {v : Int32} {K : mE → Option α} (h : 6 < n) (hn : n < 2147483648) : asK (some (.inl (t, n, f))) t 6 v K = K (.inl (t, n, upd f 6 v)) := asK_n (i := 6) h hn
/-- the start: both made, the invariant holds -/
theorem mi_all {s : Nat} {sc : Nat × (Nat → Int32)} (hC : WC A 8 (fun _ => 0) (fun _ _ => 0) 0 0 (fun _ => 0) (fun _ => 0) (fun i => if i = 2 then 65535 else 0)) (h57 : ∀ j, j < 8 → A 57 j = 1) (h31 : A 31 0 = nI 1) (h32 : A 32 = upd (upd (zrow (fun _ => 0) 0 3) 0 (-9)) 1 1000) (hz : ∀ k, k ≠ 57 → k ≠ 31 → k ≠ 32 → (k < 8 ∨ 18 < k) → A k = fun _ => 0) : ∃ E s', s' ≤ s + 10000 ∧ evM 137 [.ref 60] (HX (cellsC 8 0 0 A) [.inr (8, [.int 0, .long 0, .null, .int 0, .int 0, .int 0, .int 0, .int 0, .int 0, .int 0, .null, .int 0, .int 0, .int 0, .int 0, .null, .int 0, .int 0, .null, .int 0, .int 0, .null, .null, .null, .null, .null, .null, .null, .null])] s sc) = some (none, G 8 0 0 E (73, s', sc)) ∧ INV 8 0 0 E := by
  have hf := mi_fields (l := cellsC 8 0 0 A) (s := s) (sc := sc) rfl
  rw [mi_cells (fun k hk => hz k (by omega) (by omega) (by omega) (by omega))] at hf
  obtain ⟨s', hs', hf⟩ : ∃ s', s' ≤ s + 10000 ∧ evM 137 [.ref 60] (HX (cellsC 8 0 0 A) [.inr (8, [.int 0, .long 0, .null, .int 0, .int 0, .int 0, .int 0, .int 0, .int 0, .int 0, .null, .int 0, .int 0, .int 0, .int 0, .null, .int 0, .int 0, .null, .int 0, .int 0, .null, .null, .null, .null, .null, .null, .null, .null])] s sc) = ev 137 108 [some (.ref 60), none] [] (G 8 0 0 (up A 60 (fL [0, 0, 0, 0, 0, 0, 0, 0, 0, 0, 65535, 0, 0, 0, 0, 0])) (73, s', sc)) := ⟨_, by omega, hf⟩
  obtain ⟨B, hB⟩ : ∃ B, B = up A 60 (fL [0, 0, 0, 0, 0, 0, 0, 0, 0, 0, 65535, 0, 0, 0, 0, 0]) := ⟨_, rfl⟩
  rw [← hB] at hf
  obtain ⟨C, c1, c2, c3⟩ := mi_prices_loop (b := 8) (u := 0) (v := 0) (τ := (73, s', sc)) 8 0 B rfl (fun j hj => absurd hj (Nat.not_lt_zero j))
  have c1' : ev 137 110 [some (.ref 60), some (.int 0)] [] (G 8 0 0 B (73, s', sc)) = _ := c1
  have e60 : C 60 = fL [0, 0, 0, 0, 0, 0, 0, 0, 0, 0, 65535, 0, 0, 0, 0, 0] := by rw [c3 60 (by omega), hB, up_at]
  have eA : ∀ k, k ≠ 67 → k ≠ 60 → C k = A k := fun k k1 k2 => by rw [c3 k k1, hB, up_ne k2]
  have eZ : ∀ k, k ≠ 67 → k ≠ 60 → k ≠ 57 → k ≠ 31 → k ≠ 32 → (k < 8 ∨ 18 < k) → C k = fun _ => 0 := fun k k1 k2 k3 k4 k5 k6 => by rw [eA k k1 k2, hz k k3 k4 k5 k6]
  have e70 : C 70 = fun _ => 0 := eZ 70 (by omega) (by omega) (by omega) (by omega) (by omega) (by omega)
  obtain ⟨D, hD⟩ : ∃ D, D = up C 70 (upd (upd (upd (fun _ => 0) 0 1) 5 (-9)) 6 1000) := ⟨_, rfl⟩
  have d : ∀ k, k ≠ 70 → D k = C k := fun k hk => by rw [hD, up_ne hk]
  have d60 : D 60 = fL [0, 0, 0, 0, 0, 0, 0, 0, 0, 0, 65535, 0, 0, 0, 0, 0] := (d 60 (by omega)).trans e60
  have hMW : MW D (fun _ => 0) (fun _ _ => 0) := fun k hk => by
    rw [d 62 (by omega), eZ 62 (by omega) (by omega) (by omega) (by omega) (by omega) (by omega)]
    exact ⟨rfl, fun i hi => absurd hi (Nat.not_lt_zero i)⟩
  have hj := V_judges (b := 8) (u := 0) (v := 0) (τ := (73, s', sc)) hMW DF_0.1 (by rw [d60]; exact s16_0)
  rw [d60, show fL [0, 0, 0, 0, 0, 0, 0, 0, 0, 0, 65535, 0, 0, 0, 0, 0] 10 = 65535 from rfl, show fL [0, 0, 0, 0, 0, 0, 0, 0, 0, 0, 65535, 0, 0, 0, 0, 0] 8 = 0 from rfl] at hj
  obtain ⟨E, hE⟩ : ∃ E, E = jud D (fun _ => 0) (fun _ _ => 0) (brk (fun _ => 0) 65535 0) (saf (fun _ => 0) (fun _ _ => 0) 65535 0) := ⟨_, rfl⟩
  rw [← hE] at hj
  have f : ∀ k, k ≠ 60 → k ≠ 65 → E k = D k := fun k k1 k2 => by rw [hE, jud, up_ne k2, JG_ne k1]
  have fA : ∀ k, k ≠ 60 → k ≠ 65 → k ≠ 67 → k ≠ 70 → E k = A k := fun k k1 k2 k3 k4 => by rw [f k k1 k2, d k k4, eA k k3 k1]
  have fZ : ∀ k, k ≠ 60 → k ≠ 65 → k ≠ 67 → k ≠ 70 → k ≠ 57 → k ≠ 31 → k ≠ 32 → (k < 8 ∨ 18 < k) → E k = fun _ => 0 := fun k k1 k2 k3 k4 k5 k6 k7 k8 => by rw [fA k k1 k2 k3 k4, hz k k5 k6 k7 k8]
  have f60 : E 60 = fL [0, 0, 0, 0, 0, 0, 0, 0, 0, 0, 65535, 0, 0, 0, brk (fun _ => 0) 65535 0, saf (fun _ => 0) (fun _ _ => 0) 65535 0] := by
    rw [hE, jud, up_ne (by omega), JG_60, d60]
    rfl
  have f65 : ∀ s, s < 16 → E 65 s = dm (fun _ => 0) (fun _ _ => 0) (brk (fun _ => 0) 65535 0) (saf (fun _ => 0) (fun _ _ => 0) 65535 0) 16 s := fun s hs => by
    rw [hE, jud, up_at, mix, if_pos hs]
  have f70 : E 70 = upd (upd (upd (fun _ => 0) 0 1) 5 (-9)) 6 1000 := by rw [f 70 (by omega) (by omega), hD, up_at]
  have f67 : ∀ j, j < 8 → E 67 j = 1 := fun j hj => by rw [f 67 (by omega) (by omega), d 67 (by omega)]; exact c2 j hj
  have f8 : ∀ k, 8 ≤ k → k ≤ 18 → E k = A k := fun k k1 k2 => fA k (by omega) (by omega) (by omega) (by omega)
  obtain ⟨q1, ⟨q2, q3⟩, ⟨q4, q5, q6, q7, q8, q9⟩, q10, q11, q12, q13, q14⟩ := hC
  have q5' : A 8 2 = 0 := q5
  have q7' : A 8 4 = 65535 := q7
  have q8' : A 8 5 = brk (fun _ => 0) 65535 0 := q8
  have q9' : A 8 6 = saf (fun _ => 0) (fun _ _ => 0) 65535 0 := q9
  have g14 : E 60 14 = brk (fun _ => 0) 65535 0 := by
    rw [f60]
    simp only [fL_0, fL_s]
  have g15 : E 60 15 = saf (fun _ => 0) (fun _ _ => 0) 65535 0 := by
    rw [f60]
    simp only [fL_0, fL_s]
  have hIP : ∀ q im, 39 ≤ q → q ≤ 48 → IP E q im := fun q im a c => by
    have g : ∀ k, q ≤ k → k ≤ q + 8 → E k = fun _ => 0 := fun k k1 k2 => fZ k (by omega) (by omega) (by omega) (by omega) (by omega) (by omega) (by omega) (by omega)
    refine ⟨0, 0, 0, 0, ⟨?_, ?_, ?_, ?_⟩, ⟨Nat.zero_le _, Nat.zero_le _, Nat.zero_le _, Nat.zero_le _⟩, Or.inl ⟨?_, ?_⟩⟩
    · rw [g (q + 1) (by omega) (by omega)]; rfl
    · rw [g (q + 3) (by omega) (by omega)]; rfl
    · rw [g (q + 5) (by omega) (by omega)]; rfl
    · rw [g (q + 7) (by omega) (by omega)]; rfl
    · rw [g q (by omega) (by omega)]
    · rw [fZ 72 (by omega) (by omega) (by omega) (by omega) (by omega) (by omega) (by omega) (by omega)]
  refine ⟨E, s', hs', ?_, Or.inl rfl, rfl, by rw [f60]; rfl, ⟨fun _ => 0, fun _ _ => 0, 0, fun _ => 0, fun _ => 0, ⟨DF_0.1, ?_, ?_, ?_, ?_, ?_, ?_⟩, DF_0.2.2.1, ⟨?_, fun j hj => absurd hj (Nat.not_lt_zero j)⟩, ⟨by rw [f60]; rfl, fun j hj => absurd hj (Nat.not_lt_zero j)⟩, ?_⟩, ⟨0, fun _ => 0, Nat.zero_le _, ?_, by rw [f60]; rfl, fun i => (by decide : (0 : Nat) < 256), fun i hi => absurd hi (Nat.not_lt_zero i)⟩, ⟨fun _ => 1, fun _ => 0, fun d hd => (by decide : (1 : Nat) ≤ 20 ∧ (0 : Nat) ≤ 5), fun d hd => ⟨?_, ?_⟩, fun d hd => ⟨?_, ?_⟩⟩, ?_, ⟨1, 0, 0, 0, ?_, ?_, ?_, ?_, ?_⟩, hIP 39 0 (by omega) (by omega), hIP 48 1 (by omega) (by omega)⟩
  · rw [hf]
    simp (disch := first | omega | assumption | exact Nat.le_of_ble_eq_true rfl) only [m137, e137_108, e137_109i, e137_109n, e137_109r, Bool.false_eq_true, Bool.true_eq_false, gfK, pfK, lnK, isC, alK_n, asK_n, List.getElem?_cons_zero, List.getElem?_cons_succ, List.set_cons_zero, List.set_cons_succ, List.length_cons, List.length_nil, ↓reduceIte, if_true, if_false, eq_self, and_true, true_and, and_self, Option.bind_some, Option.bind_none, Option.toList_some, Option.toList_none, List.cons_append, List.nil_append, mset_at, mset_ne, mset_2, mset_mset, Nat.reduceLT, Nat.reduceAdd, c1']
    simp (disch := first | omega | assumption | exact Nat.le_of_ble_eq_true rfl) only [m137, e137_129, e137_130, e137_133, e137_134, e137_135, e137_136, e137_137, e137_140, e137_141, e137_143, e137_144, e137_145, e137_148, e137_150, e137_153, e137_154, Bool.false_eq_true, Bool.true_eq_false, gfK, pfK, lnK, isC, alK_n, asK_n, List.getElem?_cons_zero, List.getElem?_cons_succ, List.set_cons_zero, List.set_cons_succ, List.length_cons, List.length_nil, ↓reduceIte, if_true, if_false, eq_self, and_true, true_and, and_self, Option.bind_some, Option.bind_none, Option.toList_some, Option.toList_none, List.cons_append, List.nil_append, mset_at, mset_ne, mset_2, mset_mset, Nat.reduceLT, Nat.reduceAdd, G_60, G_70, S_70, up_at, up_up, asK_l0, asK_l5, asK_l6, e70]
    rw [← hD]
    simp (disch := first | omega | assumption | exact Nat.le_of_ble_eq_true rfl) only [m137, e137_155, e137_158, Bool.false_eq_true, Bool.true_eq_false, gfK, pfK, lnK, isC, alK_n, asK_n, List.getElem?_cons_zero, List.getElem?_cons_succ, List.set_cons_zero, List.set_cons_succ, List.length_cons, List.length_nil, ↓reduceIte, if_true, if_false, eq_self, and_true, true_and, and_self, Option.bind_some, Option.bind_none, Option.toList_some, Option.toList_none, List.cons_append, List.nil_append, mset_at, mset_ne, mset_2, mset_mset, Nat.reduceLT, Nat.reduceAdd, G_60, hj]
  · intro k hk
    rw [f8 (8 + 1) (by omega) (by omega), f8 (8 + 2) (by omega) (by omega), f8 (8 + 3) (by omega) (by omega)]
    exact q1 k hk
  · intro k hk
    rw [f 62 (by omega) (by omega)]
    exact hMW k hk
  · rw [f8 8 (by omega) (by omega), q4, q5, q6, q7, f60]
    exact ⟨rfl, rfl, rfl, rfl⟩
  · rw [f8 8 (by omega) (by omega), q5, q6, q7]
    exact ⟨s16_0, s16_0, s16_all⟩
  · rw [f8 8 (by omega) (by omega), q8', q9', q5', q7', g14, g15]
    exact ⟨rfl, rfl, rfl, rfl⟩
  · intro s hs
    obtain ⟨g1, g2, g3, g4⟩ := q10 s hs
    rw [f8 8 (by omega) (by omega), f8 (8 + 6) (by omega) (by omega), f8 (8 + 7) (by omega) (by omega), f8 (8 + 8) (by omega) (by omega), f8 (8 + 9) (by omega) (by omega), f65 s hs, q8, q9, q6, q7]
    exact ⟨g1, g2, g2.symm, g3, g4⟩
  · rw [f8 8 (by omega) (by omega)]
    exact q2
  · rw [f8 (8 + 10) (by omega) (by omega)]
    exact ⟨q11, q12, q13, q14⟩
  · rw [fZ 1 (by omega) (by omega) (by omega) (by omega) (by omega) (by omega) (by omega) (by omega)]; rfl
  · rw [fA 57 (by omega) (by omega) (by omega) (by omega)]; exact h57 d hd
  · rw [fZ 58 (by omega) (by omega) (by omega) (by omega) (by omega) (by omega) (by omega) (by omega)]; rfl
  · exact f67 d hd
  · rw [fZ 68 (by omega) (by omega) (by omega) (by omega) (by omega) (by omega) (by omega) (by omega)]; rfl
  · show E 59 = E 69
    rw [fZ 59 (by omega) (by omega) (by omega) (by omega) (by omega) (by omega) (by omega) (by omega), fZ 69 (by omega) (by omega) (by omega) (by omega) (by omega) (by omega) (by omega) (by omega)]
  · rw [fA 31 (by omega) (by omega) (by omega) (by omega)]; exact h31
  · rw [fZ 33 (by omega) (by omega) (by omega) (by omega) (by omega) (by omega) (by omega) (by omega)]; rfl
  · rw [fZ 35 (by omega) (by omega) (by omega) (by omega) (by omega) (by omega) (by omega) (by omega)]; rfl
  · rw [fZ 37 (by omega) (by omega) (by omega) (by omega) (by omega) (by omega) (by omega) (by omega)]; rfl
  · rw [fZ 30 (by omega) (by omega) (by omega) (by omega) (by omega) (by omega) (by omega) (by omega), fA 32 (by omega) (by omega) (by omega) (by omega), h32, f70]
    refine ⟨⟨by omega, by omega, by omega, by omega, by omega, rfl, rfl, rfl, rfl, rfl⟩, ⟨fun j hj => ?_, fun j hj => ?_⟩, fun j hj => absurd hj (Nat.not_lt_zero j), ⟨fun j hj => absurd hj (Nat.not_lt_zero j), fun j hj => absurd hj (Nat.not_lt_zero j)⟩, fun j hj => absurd hj (Nat.not_lt_zero j)⟩
    · have : j = 0 := by omega
      subst this
      exact ⟨rfl, rfl, rfl⟩
    · have : j = 0 := by omega
      subst this
      exact Or.inl rfl
end INITM2

