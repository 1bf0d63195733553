/-! THE CLASS'S WORLD: sure and settle. -/
/-- those come to in a round -/
def comeP (lc : Nat → Nat) (lt : Nat → Nat → Nat) (C sf : Int32) (s : Nat) : Bool := bi (sf &&& (C ^^^ -1)) s && !decide (orF (fun d => sty lc lt C (s * 8 + d)) 8 0 = 0)
/-- those come to after r rounds -/
def came (lc : Nat → Nat) (lt : Nat → Nat → Nat) (sf set : Int32) (r : Nat) : Int32 := orF (fun s => decide (¬ sr lc lt sf set r s = -9)) 16 0
section WSURE
variable {b w t : Nat} {u v : Int64} {A : Nat → Nat → Int32} {τ : Nat × Nat × Nat × (Nat → Int32)} {lc : Nat → Nat} {lt : Nat → Nat → Nat} {s d i r : Nat} {S C x y z br sf set : Int32} {σ : mS} {f : Nat → Int32}
theorem came_bi (hs : s < 16) : bi (came lc lt sf set r) s = decide (¬ sr lc lt sf set r s = -9) := by
  unfold came
  rw [bi_orF (by omega) (by omega), bi_0, Bool.false_or, decide_eq_true hs, Bool.true_and]
theorem came_s16 : S16 (came lc lt sf set r) := orF_s16 (by omega) s16_0
theorem not_orF {P : Nat → Bool} : (!decide (orF P 8 0 = 0)) = true ↔ ∃ d, d < 8 ∧ P d = true := by
  rw [Bool.not_eq_true', decide_eq_false_iff_not, orF_0 (by omega)]
  constructor
  · intro h
    refine Classical.byContradiction fun g => h fun j hj => Bool.eq_false_iff.2 fun q => g ⟨j, hj, q⟩
  · rintro ⟨d, hd, h⟩ g
    rw [g d hd] at h
    exact Bool.false_ne_true h
theorem comeP_t (hW : WF lc lt) (hs : s < 16) : comeP lc lt (came lc lt sf set r) sf s = true ↔ bi sf s = true ∧ sr lc lt sf set r s = -9 ∧ (∃ d, d < 8 ∧ 0 < lc (s * 8 + d) ∧ ∀ i, i < lc (s * 8 + d) → ¬ sr lc lt sf set r (lt (s * 8 + d) i) = -9) := by
  unfold comeP
  rw [Bool.and_eq_true, bi_and, bi_not (by omega), came_bi hs, Bool.and_eq_true, Bool.not_eq_true', decide_eq_false_iff_not, Decidable.not_not, not_orF, and_assoc]
  refine and_congr_right fun _ => and_congr_right fun _ => exists_congr fun d => and_congr_right fun hd => ?_
  have hk : s * 8 + d < 128 := by omega
  rw [sty_t hW hk]
  refine and_congr_right fun _ => forall_congr' fun i => forall_congr' fun hi => ?_
  rw [came_bi ((hW _ hk).2 i hi), decide_eq_true_eq]
theorem sr_step (hW : WF lc lt) (hs : s < 16) : sr lc lt sf set (r + 1) s = if comeP lc lt (came lc lt sf set r) sf s = true then nI (r + 1) else sr lc lt sf set r s := by
  rw [sr]
  by_cases h : comeP lc lt (came lc lt sf set r) sf s = true
  · rw [if_pos h, if_pos ((comeP_t hW hs).1 h)]
  · rw [if_neg h, if_neg (fun g => h ((comeP_t hW hs).2 g))]
theorem came_step (hW : WF lc lt) (hr : r < 100) : came lc lt sf set r ||| orF (comeP lc lt (came lc lt sf set r) sf) 16 0 = came lc lt sf set (r + 1) := by
  refine ext16 (s16_or came_s16 (orF_s16 (by omega) s16_0)) came_s16 fun s hs => ?_
  rw [bi_or, bi_orF (by omega) (by omega), bi_0, Bool.false_or, decide_eq_true hs, Bool.true_and, came_bi hs, came_bi hs, sr_step hW hs]
  by_cases h : comeP lc lt (came lc lt sf set r) sf s = true
  · rw [if_pos h, h, decide_eq_true (nI_m9 (n := r + 1) (by omega)), Bool.or_true]
  · rw [if_neg h, Bool.eq_false_iff.2 h, Bool.or_false]
theorem came_0 (hb : S16 sf) : came lc lt sf set 0 = set &&& sf := by
  refine ext16 came_s16 (fun i h1 h2 => by rw [bi_and, hb i h1 h2, Bool.and_false]) fun s hs => ?_
  rw [came_bi hs, sr, bi_and]
  by_cases h : bi sf s = true ∧ bi set s = true
  · rw [if_pos h, h.1, h.2]; decide
  · rw [if_neg h]
    by_cases h1 : bi sf s = true
    · rw [h1, Bool.eq_false_iff.2 (fun g => h ⟨h1, g⟩)]; decide
    · rw [Bool.eq_false_iff.2 h1, Bool.and_false]; decide
theorem G_t (hw : w = 8 ∨ w = 19) (ht : t = w + 8 ∨ t = w + 9) : (G b u v A τ).1 t = some (.inl (0, 16, (A t))) := by
  rcases ht with rfl | rfl
  · exact G_W8 hw
  · exact G_W9 hw
theorem S_t (hw : w = 8 ∨ w = 19) (ht : t = w + 8 ∨ t = w + 9) : mset (G b u v A τ) t (.inl (0, 16, f)) = G b u v (up A t f) τ := by
  rcases ht with rfl | rfl
  · exact S_W8 hw
  · exact S_W9 hw
theorem of16 : (Int32.ofNat 16) = 16 := rfl
theorem W_sr0 (hw : w = 8 ∨ w = 19) (ht : t = w + 8 ∨ t = w + 9) (f0 : Nat → Int32) : ∀ (n s : Nat), s + n = 16 → ev 67 10 [some (.ref w), some (.int set), some (.ref t), some (.int (set &&& sf)), some (.int (nI s)), none, none] [] (G b u v (up A t (mix s (sr lc lt sf set 0) f0)) τ) = ev 67 49 [some (.ref w), some (.int set), some (.ref t), some (.int (set &&& sf)), some (.int (nI 16)), none, none] [] (G b u v (up A t (mix 16 (sr lc lt sf set 0) f0)) τ)
  | 0, s, hs => by
    have : s = 16 := by omega
    subst this
    rw [e67_10]
    simp (disch := first | omega | assumption | exact Nat.le_of_ble_eq_true rfl) only [m67, e67_12, e67_14, Bool.false_eq_true, gfK, pfK, lnK, isC, alK_n, asK_n, List.getElem?_cons_zero, List.getElem?_cons_succ, List.set_cons_zero, List.set_cons_succ, List.length_cons, List.length_nil, ↓reduceIte, if_true, if_false, eq_self, and_true, true_and, and_self, Option.bind_some, Option.bind_none, Option.toList_some, Option.toList_none, List.cons_append, List.nil_append, mset_at, mset_ne, mset_2, mset_mset, Nat.reduceLT, Nat.reduceAdd, le_16, Nat.le_refl]
  | n + 1, s, hs => by
    have ih := W_sr0 hw ht f0 n (s + 1) (by omega)
    have h16 : ¬ 16 ≤ s := by omega
    rw [← mix_succ] at ih
    have hb : bi (set &&& sf) s = (bi set s && bi sf s) := bi_and _ _ _
    rw [e67_10]
    by_cases h0 : bi sf s = true ∧ bi set s = true
    · rw [show sr lc lt sf set 0 s = 0 from by rw [sr, if_pos h0]] at ih
      rw [h0.1, h0.2] at hb
      simp (disch := first | omega | assumption | exact Nat.le_of_ble_eq_true rfl) only [m67, e67_12, e67_14, e67_17, e67_19, e67_20, e67_21, e67_24, e67_25, e67_27, e67_28, e67_30, e67_33, e67_36, e67_37, e67_40, e67_42, e67_43i, e67_43n, e67_43r, e67_46, Bool.false_eq_true, gfK, pfK, lnK, isC, alK_n, asK_n, List.getElem?_cons_zero, List.getElem?_cons_succ, List.set_cons_zero, List.set_cons_succ, List.length_cons, List.length_nil, ↓reduceIte, if_true, if_false, eq_self, and_true, true_and, and_self, Option.bind_some, Option.bind_none, Option.toList_some, Option.toList_none, List.cons_append, List.nil_append, mset_at, mset_ne, mset_2, mset_mset, Nat.reduceLT, Nat.reduceAdd, le_16, h16, of16, G_t hw ht, S_t hw ht, up_at, up_up, R_bit, hb, Bool.and_self, nz1, nI_succ', ih]
    · rw [show sr lc lt sf set 0 s = -9 from by rw [sr, if_neg h0]] at ih
      have hb' : bi (set &&& sf) s = false := by
        rw [hb]
        by_cases h1 : bi sf s = true
        · rw [h1, Bool.eq_false_iff.2 (fun g => h0 ⟨h1, g⟩)]; rfl
        · rw [Bool.eq_false_iff.2 h1, Bool.and_false]
      simp (disch := first | omega | assumption | exact Nat.le_of_ble_eq_true rfl) only [m67, e67_12, e67_14, e67_17, e67_19, e67_20, e67_21, e67_24, e67_25, e67_27, e67_28, e67_30, e67_33, e67_36, e67_37, e67_40, e67_42, e67_43i, e67_43n, e67_43r, e67_46, Bool.false_eq_true, gfK, pfK, lnK, isC, alK_n, asK_n, List.getElem?_cons_zero, List.getElem?_cons_succ, List.set_cons_zero, List.set_cons_succ, List.length_cons, List.length_nil, ↓reduceIte, if_true, if_false, eq_self, and_true, true_and, and_self, Option.bind_some, Option.bind_none, Option.toList_some, Option.toList_none, List.cons_append, List.nil_append, mset_at, mset_ne, mset_2, mset_mset, Nat.reduceLT, Nat.reduceAdd, le_16, h16, of16, G_t hw ht, S_t hw ht, up_at, up_up, R_bit, hb', nI_succ', ih, Bool.false_eq_true]
theorem W_sr_in (hw : w = 8 ∨ w = 19) (ht : t = w + 8 ∨ t = w + 9) (hC : CW A w lc lt) (hW : WF lc lt) (f0 : Nat → Int32) : ∀ (n s : Nat), s + n = 16 → ev 67 65 [some (.ref w), some (.int set), some (.ref t), some (.int C), some (.int x), some (.int (orF (comeP lc lt C (A w 6)) s 0)), some (.int (nI s))] [] (G b u v (up A t (mix s (fun s => if comeP lc lt C (A w 6) s = true then x else f0 s) f0)) τ) = ev 67 126 [some (.ref w), some (.int set), some (.ref t), some (.int C), some (.int x), some (.int (orF (comeP lc lt C (A w 6)) 16 0)), some (.int (nI 16))] [] (G b u v (up A t (mix 16 (fun s => if comeP lc lt C (A w 6) s = true then x else f0 s) f0)) τ)
  | 0, s, hs => by
    have : s = 16 := by omega
    subst this
    rw [e67_65]
    simp (disch := first | omega | assumption | exact Nat.le_of_ble_eq_true rfl) only [m67, e67_67, e67_69, Bool.false_eq_true, gfK, pfK, lnK, isC, alK_n, asK_n, List.getElem?_cons_zero, List.getElem?_cons_succ, List.set_cons_zero, List.set_cons_succ, List.length_cons, List.length_nil, ↓reduceIte, if_true, if_false, eq_self, and_true, true_and, and_self, Option.bind_some, Option.bind_none, Option.toList_some, Option.toList_none, List.cons_append, List.nil_append, mset_at, mset_ne, mset_2, mset_mset, Nat.reduceLT, Nat.reduceAdd, le_16, Nat.le_refl]
  | n + 1, s, hs => by
    have ih := W_sr_in hw ht hC hW f0 n (s + 1) (by omega)
    have h16 : ¬ 16 ≤ s := by omega
    have h6 : up A t (mix s (fun s => if comeP lc lt C (A w 6) s = true then x else f0 s) f0) w 6 = A w 6 := by rw [up_ne (by omega)]
    have hi := fun S => W_into (b := b) (u := u) (v := v) (τ := τ) (S := S) (s := s) hw (CW_up (k := t) (f := mix s (fun s => if comeP lc lt C (A w 6) s = true then x else f0 s) f0) (by omega) hC) hW (by omega)
    rw [e67_65]
    by_cases h0 : bi (A w 6 &&& (C ^^^ -1)) s = true
    · by_cases h1 : orF (fun d => sty lc lt C (s * 8 + d)) 8 0 = 0
      · have hP : comeP lc lt C (A w 6) s = false := by unfold comeP; rw [decide_eq_true h1]; exact Bool.and_false _
        rw [orF_f hP, mix_same (by rw [if_neg (by rw [hP]; exact Bool.false_ne_true), mix_ge (by omega)])] at ih
        simp (disch := first | omega | assumption | exact Nat.le_of_ble_eq_true rfl) only [m67, e67_67, e67_69, e67_72, e67_74, e67_75, e67_76, e67_79, e67_80, e67_83, e67_84, e67_85, e67_86, e67_87, e67_89, e67_92, e67_95, e67_96, e67_98, e67_99, e67_102, e67_105, e67_106, e67_108, e67_110, e67_111, e67_113, e67_114, e67_116, e67_117, e67_118i, e67_118n, e67_118r, e67_120i, e67_120n, e67_120r, e67_123, Bool.false_eq_true, gfK, pfK, lnK, isC, alK_n, asK_n, List.getElem?_cons_zero, List.getElem?_cons_succ, List.set_cons_zero, List.set_cons_succ, List.length_cons, List.length_nil, ↓reduceIte, if_true, if_false, eq_self, and_true, true_and, and_self, Option.bind_some, Option.bind_none, Option.toList_some, Option.toList_none, List.cons_append, List.nil_append, mset_at, mset_ne, mset_2, mset_mset, Nat.reduceLT, Nat.reduceAdd, le_16, h16, of16, G_t hw ht, G_W0 hw, h6, R_bit, h0, nz1, hi, h1, nI_succ', ih]
      · have hP : comeP lc lt C (A w 6) s = true := by unfold comeP; rw [h0, decide_eq_false h1]; rfl
        rw [orF_t hP, ← mix_succ, if_pos hP] at ih
        simp (disch := first | omega | assumption | exact Nat.le_of_ble_eq_true rfl) only [m67, e67_67, e67_69, e67_72, e67_74, e67_75, e67_76, e67_79, e67_80, e67_83, e67_84, e67_85, e67_86, e67_87, e67_89, e67_92, e67_95, e67_96, e67_98, e67_99, e67_102, e67_105, e67_106, e67_108, e67_110, e67_111, e67_113, e67_114, e67_116, e67_117, e67_118i, e67_118n, e67_118r, e67_120i, e67_120n, e67_120r, e67_123, Bool.false_eq_true, gfK, pfK, lnK, isC, alK_n, asK_n, List.getElem?_cons_zero, List.getElem?_cons_succ, List.set_cons_zero, List.set_cons_succ, List.length_cons, List.length_nil, ↓reduceIte, if_true, if_false, eq_self, and_true, true_and, and_self, Option.bind_some, Option.bind_none, Option.toList_some, Option.toList_none, List.cons_append, List.nil_append, mset_at, mset_ne, mset_2, mset_mset, Nat.reduceLT, Nat.reduceAdd, le_16, h16, of16, G_t hw ht, S_t hw ht, G_W0 hw, h6, up_at, up_up, R_bit, h0, nz1, hi, h1, bit_def, nI_succ', ih]
    · have hP : comeP lc lt C (A w 6) s = false := by unfold comeP; rw [Bool.eq_false_iff.2 h0]; rfl
      rw [orF_f hP, mix_same (by rw [if_neg (by rw [hP]; exact Bool.false_ne_true), mix_ge (by omega)])] at ih
      simp (disch := first | omega | assumption | exact Nat.le_of_ble_eq_true rfl) only [m67, e67_67, e67_69, e67_72, e67_74, e67_75, e67_76, e67_79, e67_80, e67_83, e67_84, e67_85, e67_86, e67_87, e67_89, e67_92, e67_95, e67_96, e67_98, e67_99, e67_102, e67_105, e67_106, e67_108, e67_110, e67_111, e67_113, e67_114, e67_116, e67_117, e67_118i, e67_118n, e67_118r, e67_120i, e67_120n, e67_120r, e67_123, Bool.false_eq_true, gfK, pfK, lnK, isC, alK_n, asK_n, List.getElem?_cons_zero, List.getElem?_cons_succ, List.set_cons_zero, List.set_cons_succ, List.length_cons, List.length_nil, ↓reduceIte, if_true, if_false, eq_self, and_true, true_and, and_self, Option.bind_some, Option.bind_none, Option.toList_some, Option.toList_none, List.cons_append, List.nil_append, mset_at, mset_ne, mset_2, mset_mset, Nat.reduceLT, Nat.reduceAdd, le_16, h16, of16, G_t hw ht, G_W0 hw, h6, R_bit, h0, nI_succ', ih]
theorem W_sr_out (hw : w = 8 ∨ w = 19) (ht : t = w + 8 ∨ t = w + 9) (hC : CW A w lc lt) (hW : WF lc lt) (f0 : Nat → Int32) : ∀ (n r : Nat) (l5 l6 : Option Value), r + n = 16 → ev 67 52 [some (.ref w), some (.int set), some (.ref t), some (.int (came lc lt (A w 6) set r)), some (.int (nI (r + 1))), l5, l6] [] (G b u v (up A t (mix 16 (sr lc lt (A w 6) set r) f0)) τ) = some (none, G b u v (up A t (mix 16 (sr lc lt (A w 6) set 16) f0)) τ)
  | 0, r, l5, l6, hr => by
    have : r = 16 := by omega
    subst this
    rw [e67_52]
    simp (disch := first | omega | assumption | exact Nat.le_of_ble_eq_true rfl) only [m67, e67_54, e67_56, Bool.false_eq_true, gfK, pfK, lnK, isC, alK_n, asK_n, List.getElem?_cons_zero, List.getElem?_cons_succ, List.set_cons_zero, List.set_cons_succ, List.length_cons, List.length_nil, ↓reduceIte, if_true, if_false, eq_self, and_true, true_and, and_self, Option.bind_some, Option.bind_none, Option.toList_some, Option.toList_none, List.cons_append, List.nil_append, mset_at, mset_ne, mset_2, mset_mset, Nat.reduceLT, Nat.reduceAdd, lt_16g, show 16 < 16 + 1 from by omega, e67_137]
  | n + 1, r, l5, l6, hr => by
    have ih := fun l5 l6 => W_sr_out hw ht hC hW f0 n (r + 1) l5 l6 (by omega)
    have h16 : ¬ 16 < r + 1 := by omega
    have hin := W_sr_in (b := b) (u := u) (v := v) (τ := τ) (set := set) (C := came lc lt (A w 6) set r) (x := nI (r + 1)) hw ht hC hW (mix 16 (sr lc lt (A w 6) set r) f0) 16 0 rfl
    rw [mix_0, orF] at hin
    have hm : mix 16 (fun s => if comeP lc lt (came lc lt (A w 6) set r) (A w 6) s = true then nI (r + 1) else mix 16 (sr lc lt (A w 6) set r) f0 s) (mix 16 (sr lc lt (A w 6) set r) f0) = mix 16 (sr lc lt (A w 6) set (r + 1)) f0 := by
      rw [mix_mix]
      exact mix_congr fun s hs => by rw [sr_step hW hs, mix_lt hs]
    rw [hm, ← lit_0] at hin
    rw [e67_52]
    simp (disch := first | omega | assumption | exact Nat.le_of_ble_eq_true rfl) only [m67, e67_54, e67_56, e67_59, e67_60i, e67_60n, e67_60r, e67_62, e67_63i, e67_63n, e67_63r, Bool.false_eq_true, gfK, pfK, lnK, isC, alK_n, asK_n, List.getElem?_cons_zero, List.getElem?_cons_succ, List.set_cons_zero, List.set_cons_succ, List.length_cons, List.length_nil, ↓reduceIte, if_true, if_false, eq_self, and_true, true_and, and_self, Option.bind_some, Option.bind_none, Option.toList_some, Option.toList_none, List.cons_append, List.nil_append, mset_at, mset_ne, mset_2, mset_mset, Nat.reduceLT, Nat.reduceAdd, lt_16g, h16, hin]
    simp (disch := first | omega | assumption | exact Nat.le_of_ble_eq_true rfl) only [m67, e67_126, e67_127, e67_129, e67_130i, e67_130n, e67_130r, e67_131i, e67_131n, e67_131r, e67_134, Bool.false_eq_true, gfK, pfK, lnK, isC, alK_n, asK_n, List.getElem?_cons_zero, List.getElem?_cons_succ, List.set_cons_zero, List.set_cons_succ, List.length_cons, List.length_nil, ↓reduceIte, if_true, if_false, eq_self, and_true, true_and, and_self, Option.bind_some, Option.bind_none, Option.toList_some, Option.toList_none, List.cons_append, List.nil_append, mset_at, mset_ne, mset_2, mset_mset, Nat.reduceLT, Nat.reduceAdd, came_step hW (show r < 100 by omega), nI_succ', ih]
theorem W_sure (hw : w = 8 ∨ w = 19) (ht : t = w + 8 ∨ t = w + 9) (hC : CW A w lc lt) (hW : WF lc lt) (hb : S16 (A w 6)) : evM 67 [.ref w, .int set, .ref t] (G b u v A τ) = some (none, G b u v (up A t (mix 16 (sr lc lt (A w 6) set 16) (A t))) τ) := by
  have h0 := W_sr0 (b := b) (u := u) (v := v) (A := A) (τ := τ) (lc := lc) (lt := lt) (set := set) (sf := A w 6) hw ht (A t) 16 0 rfl
  rw [mix_0, up_same, ← lit_0] at h0
  have h1 := W_sr_out (b := b) (u := u) (v := v) (τ := τ) (set := set) hw ht hC hW (A t) 16 0 none none rfl
  rw [came_0 hb, show nI (0 + 1) = 1 from rfl] at h1
  simp (disch := first | omega | assumption | exact Nat.le_of_ble_eq_true rfl) only [m67, e67_0, e67_1, e67_2, e67_5, e67_6i, e67_6n, e67_6r, e67_7, e67_8i, e67_8n, e67_8r, Bool.false_eq_true, gfK, pfK, lnK, isC, alK_n, asK_n, List.getElem?_cons_zero, List.getElem?_cons_succ, List.set_cons_zero, List.set_cons_succ, List.length_cons, List.length_nil, ↓reduceIte, if_true, if_false, eq_self, and_true, true_and, and_self, Option.bind_some, Option.bind_none, Option.toList_some, Option.toList_none, List.cons_append, List.nil_append, mset_at, mset_ne, mset_2, mset_mset, Nat.reduceLT, Nat.reduceAdd, G_W0 hw, h0]
  simp (disch := first | omega | assumption | exact Nat.le_of_ble_eq_true rfl) only [m67, e67_49, e67_50i, e67_50n, e67_50r, Bool.false_eq_true, gfK, pfK, lnK, isC, alK_n, asK_n, List.getElem?_cons_zero, List.getElem?_cons_succ, List.set_cons_zero, List.set_cons_succ, List.length_cons, List.length_nil, ↓reduceIte, if_true, if_false, eq_self, and_true, true_and, and_self, Option.bind_some, Option.bind_none, Option.toList_some, Option.toList_none, List.cons_append, List.nil_append, mset_at, mset_ne, mset_2, mset_mset, Nat.reduceLT, Nat.reduceAdd, h1]
/-- the world's own numbers with broken and safe put in -/
def WA (A : Nat → Nat → Int32) (w : Nat) (br S : Int32) : Nat → Nat → Int32 := up A w (fL [A w 0, A w 1, A w 2, A w 3, A w 4, br, S])
theorem WA_w : WA A w br S w = fL [A w 0, A w 1, A w 2, A w 3, A w 4, br, S] := up_at
theorem WA_ne {k : Nat} (h : k ≠ w) : WA A w br S k = A k := up_ne h
theorem G_WA (hw : w = 8 ∨ w = 19) : (G b u v (WA A w br S) τ).1 w = some (.inr (6, [.ref (w + 1), .ref (w + 2), .ref (w + 3), .ref (w + 4), .ref (w + 5), .int (A w 0), .int (A w 1), .int (A w 2), .int (A w 3), .int (A w 4), .int br, .int S, .ref (w + 6), .ref (w + 7), .ref (w + 8), .ref (w + 9), .ref (w + 10)])) := (G_W0 hw).trans (by rw [WA_w]; rfl)
theorem S_WA (hw : w = 8 ∨ w = 19) : mset (G b u v (WA A w br S) τ) w (.inr (6, [.ref (w + 1), .ref (w + 2), .ref (w + 3), .ref (w + 4), .ref (w + 5), .int (A w 0), .int (A w 1), .int (A w 2), .int (A w 3), .int (A w 4), .int x, .int y, .ref (w + 6), .ref (w + 7), .ref (w + 8), .ref (w + 9), .ref (w + 10)])) = G b u v (WA A w x y) τ := (S_W0 hw).trans (congrArg (fun X => G b u v X τ) up_up)
theorem S_WA0 (hw : w = 8 ∨ w = 19) : mset (G b u v A τ) w (.inr (6, [.ref (w + 1), .ref (w + 2), .ref (w + 3), .ref (w + 4), .ref (w + 5), .int (A w 0), .int (A w 1), .int (A w 2), .int (A w 3), .int (A w 4), .int x, .int y, .ref (w + 6), .ref (w + 7), .ref (w + 8), .ref (w + 9), .ref (w + 10)])) = G b u v (WA A w x y) τ := S_W0 hw
theorem W_safe_loop (hw : w = 8 ∨ w = 19) (hC : CW A w lc lt) (hW : WF lc lt) : ∀ (n i : Nat) (S : Int32), i + n = 16 → ev 59 28 [some (.ref w), some (.int (nI i))] [] (G b u v (WA A w br S) τ) = ev 59 52 [some (.ref w), some (.int (nI 16))] [] (G b u v (WA A w br (itr (thn lc lt (A w 4)) n S)) τ)
  | 0, i, S, hi => by
    have : i = 16 := by omega
    subst this
    rw [e59_28]
    simp (disch := first | omega | assumption | exact Nat.le_of_ble_eq_true rfl) only [m59, e59_29, e59_31, Bool.false_eq_true, gfK, pfK, lnK, isC, alK_n, asK_n, List.getElem?_cons_zero, List.getElem?_cons_succ, List.set_cons_zero, List.set_cons_succ, List.length_cons, List.length_nil, ↓reduceIte, if_true, if_false, eq_self, and_true, true_and, and_self, Option.bind_some, Option.bind_none, Option.toList_some, Option.toList_none, List.cons_append, List.nil_append, mset_at, mset_ne, mset_2, mset_mset, Nat.reduceLT, Nat.reduceAdd, le_16, Nat.le_refl, itr]
  | n + 1, i, S, hi => by
    have ih := W_safe_loop hw hC hW n (i + 1) (thn lc lt (A w 4) S) (by omega)
    have h16 : ¬ 16 ≤ i := by omega
    have ht := W_thin (b := b) (u := u) (v := v) (A := WA A w br S) (τ := τ) (S := S) hw (CW_up (by omega) hC) hW
    rw [WA_w] at ht
    rw [e59_28]
    simp (disch := first | omega | assumption | exact Nat.le_of_ble_eq_true rfl) only [m59, e59_29, e59_31, e59_34, e59_35, e59_36, e59_37, e59_40, e59_43, e59_46i, e59_46n, e59_46r, e59_49, Bool.false_eq_true, gfK, pfK, lnK, isC, alK_n, asK_n, List.getElem?_cons_zero, List.getElem?_cons_succ, List.set_cons_zero, List.set_cons_succ, List.length_cons, List.length_nil, ↓reduceIte, if_true, if_false, eq_self, and_true, true_and, and_self, Option.bind_some, Option.bind_none, Option.toList_some, Option.toList_none, List.cons_append, List.nil_append, mset_at, mset_ne, mset_2, mset_mset, Nat.reduceLT, Nat.reduceAdd, le_16, h16, G_WA hw, S_WA hw, ht, fL_s, fL_0, nI_succ', ih, itr]
/-- what is let in each state -/
def letF (lc : Nat → Nat) (lt : Nat → Nat → Nat) (sf : Int32) (s : Nat) : Int32 := if bi sf s = true then orF (fun d => sty lc lt sf (s * 8 + d)) 8 0 else 0
theorem W_let_loop (hw : w = 8 ∨ w = 19) (hC : CW A w lc lt) (hW : WF lc lt) (f0 : Nat → Int32) : ∀ (n s : Nat), s + n = 16 → ev 59 54 [some (.ref w), some (.int (nI s))] [] (G b u v (up A (w + 6) (mix s (letF lc lt (A w 6)) f0)) τ) = ev 59 96 [some (.ref w), some (.int (nI 16))] [] (G b u v (up A (w + 6) (mix 16 (letF lc lt (A w 6)) f0)) τ)
  | 0, s, hs => by
    have : s = 16 := by omega
    subst this
    rw [e59_54]
    simp (disch := first | omega | assumption | exact Nat.le_of_ble_eq_true rfl) only [m59, e59_55, e59_57, Bool.false_eq_true, gfK, pfK, lnK, isC, alK_n, asK_n, List.getElem?_cons_zero, List.getElem?_cons_succ, List.set_cons_zero, List.set_cons_succ, List.length_cons, List.length_nil, ↓reduceIte, if_true, if_false, eq_self, and_true, true_and, and_self, Option.bind_some, Option.bind_none, Option.toList_some, Option.toList_none, List.cons_append, List.nil_append, mset_at, mset_ne, mset_2, mset_mset, Nat.reduceLT, Nat.reduceAdd, le_16, Nat.le_refl]
  | n + 1, s, hs => by
    have ih := W_let_loop hw hC hW f0 n (s + 1) (by omega)
    have h16 : ¬ 16 ≤ s := by omega
    have h6 : up A (w + 6) (mix s (letF lc lt (A w 6)) f0) w 6 = A w 6 := by rw [up_ne (by omega)]
    have hi := fun S => W_into (b := b) (u := u) (v := v) (τ := τ) (S := S) (s := s) hw (CW_up (k := w + 6) (f := mix s (letF lc lt (A w 6)) f0) (by omega) hC) hW (by omega)
    rw [← mix_succ] at ih
    rw [e59_54]
    by_cases h0 : bi (A w 6) s = true
    · rw [letF, if_pos h0] at ih
      simp (disch := first | omega | assumption | exact Nat.le_of_ble_eq_true rfl) only [m59, e59_55, e59_57, e59_60, e59_61, e59_64, e59_65, e59_66, e59_69, e59_70, e59_73, e59_76, e59_77, e59_78, e59_79, e59_82, e59_85, e59_88, e59_89, e59_90i, e59_90n, e59_90r, e59_93, Bool.false_eq_true, gfK, pfK, lnK, isC, alK_n, asK_n, List.getElem?_cons_zero, List.getElem?_cons_succ, List.set_cons_zero, List.set_cons_succ, List.length_cons, List.length_nil, ↓reduceIte, if_true, if_false, eq_self, and_true, true_and, and_self, Option.bind_some, Option.bind_none, Option.toList_some, Option.toList_none, List.cons_append, List.nil_append, mset_at, mset_ne, mset_2, mset_mset, Nat.reduceLT, Nat.reduceAdd, le_16, h16, G_W0 hw, G_W6 hw, S_W6 hw, h6, up_at, up_up, R_bit, h0, nz1, hi, nI_succ', ih]
    · rw [letF, if_neg h0] at ih
      simp (disch := first | omega | assumption | exact Nat.le_of_ble_eq_true rfl) only [m59, e59_55, e59_57, e59_60, e59_61, e59_64, e59_65, e59_66, e59_69, e59_70, e59_73, e59_76, e59_77, e59_78, e59_79, e59_82, e59_85, e59_88, e59_89, e59_90i, e59_90n, e59_90r, e59_93, Bool.false_eq_true, gfK, pfK, lnK, isC, alK_n, asK_n, List.getElem?_cons_zero, List.getElem?_cons_succ, List.set_cons_zero, List.set_cons_succ, List.length_cons, List.length_nil, ↓reduceIte, if_true, if_false, eq_self, and_true, true_and, and_self, Option.bind_some, Option.bind_none, Option.toList_some, Option.toList_none, List.cons_append, List.nil_append, mset_at, mset_ne, mset_2, mset_mset, Nat.reduceLT, Nat.reduceAdd, le_16, h16, G_W0 hw, G_W6 hw, S_W6 hw, h6, up_at, up_up, R_bit, h0, nI_succ', ih, Bool.false_eq_true]
/-- the numbers behind settle -/
def stl (A : Nat → Nat → Int32) (w : Nat) (lc : Nat → Nat) (lt : Nat → Nat → Nat) (br sf : Int32) : Nat → Nat → Int32 := up (up (up (up (WA A w br sf) (w + 6) (mix 16 (letF lc lt sf) (A (w + 6)))) (w + 7) (mix 16 (dm lc lt br sf 16) (A (w + 7)))) (w + 8) (mix 16 (sr lc lt sf (A w 3) 16) (A (w + 8)))) (w + 9) (mix 16 (sr lc lt sf (A w 4) 16) (A (w + 9)))
theorem W_settle (hw : w = 8 ∨ w = 19) (hC : CW A w lc lt) (hW : WF lc lt) (hn : S16 (A w 2)) : evM 59 [.ref w] (G b u v A τ) = some (none, G b u v (stl A w lc lt (brk lc (A w 4) (A w 2)) (saf lc lt (A w 4) (A w 2))) τ) := by
  have h1 := W_stuck (b := b) (u := u) (v := v) (τ := τ) hw hC hW
  have h2 := W_safe_loop (b := b) (u := u) (v := v) (τ := τ) (br := brk lc (A w 4) (A w 2)) hw hC hW 16 0 (65535 &&& (brk lc (A w 4) (A w 2) ^^^ -1)) rfl
  have e1 : A w 2 ||| orF (fun s => !bi (A w 4) s && !anyF (fun d => decide (0 < lc (s * 8 + d))) 8) 16 0 = brk lc (A w 4) (A w 2) := (orF_or 16).symm
  obtain ⟨br, hbr⟩ : ∃ br, br = brk lc (A w 4) (A w 2) := ⟨_, rfl⟩
  have e2 : itr (thn lc lt (A w 4)) 16 (65535 &&& (brk lc (A w 4) (A w 2) ^^^ -1)) = saf lc lt (A w 4) (A w 2) := rfl
  obtain ⟨sf, hsf⟩ : ∃ sf, sf = saf lc lt (A w 4) (A w 2) := ⟨_, rfl⟩
  have hbs : S16 br := hbr ▸ brk_s16 hn
  have hss : S16 sf := hsf ▸ saf_s16
  rw [e2, ← hbr, ← hsf, ← lit_0] at h2
  rw [← hbr] at e1
  rw [← hbr, ← hsf]
  have h3 := W_let_loop (b := b) (u := u) (v := v) (A := WA A w br sf) (τ := τ) hw (CW_up (by omega) hC) hW (A (w + 6)) 16 0 rfl
  rw [mix_0, WA_w, show fL [A w 0, A w 1, A w 2, A w 3, A w 4, br, sf] 6 = sf from rfl, ← WA_ne (A := A) (w := w) (br := br) (S := sf) (k := w + 6) (by omega), up_same, ← lit_0] at h3
  obtain ⟨A2, hA2⟩ : ∃ A2, A2 = up (WA A w br sf) (w + 6) (mix 16 (letF lc lt sf) (WA A w br sf (w + 6))) := ⟨_, rfl⟩
  rw [← hA2] at h3
  have g2 : A2 w = fL [A w 0, A w 1, A w 2, A w 3, A w 4, br, sf] := by rw [hA2, up_ne (by omega), WA_w]
  have n2 : ∀ k, k ≠ w → k ≠ w + 6 → A2 k = A k := fun k k1 k2 => by rw [hA2, up_ne k2, WA_ne k1]
  have c2 : CW A2 w lc lt := hA2 ▸ CW_up (by omega) (CW_up (by omega) hC)
  have h4 := W_dooms (b := b) (u := u) (v := v) (A := A2) (τ := τ) hw c2 hW (by rw [g2]; exact hbs)
  rw [g2, n2 (w + 7) (by omega) (by omega), show fL [A w 0, A w 1, A w 2, A w 3, A w 4, br, sf] 6 = sf from rfl, show fL [A w 0, A w 1, A w 2, A w 3, A w 4, br, sf] 5 = br from rfl] at h4
  obtain ⟨A3, hA3⟩ : ∃ A3, A3 = up A2 (w + 7) (mix 16 (dm lc lt br sf 16) (A (w + 7))) := ⟨_, rfl⟩
  rw [← hA3] at h4
  have g3 : A3 w = fL [A w 0, A w 1, A w 2, A w 3, A w 4, br, sf] := by rw [hA3, up_ne (by omega), g2]
  have n3 : ∀ k, k ≠ w → k ≠ w + 6 → k ≠ w + 7 → A3 k = A k := fun k k1 k2 k3 => by rw [hA3, up_ne k3, n2 k k1 k2]
  have c3 : CW A3 w lc lt := hA3 ▸ CW_up (by omega) c2
  have h5 := W_sure (b := b) (u := u) (v := v) (A := A3) (τ := τ) (t := w + 8) (set := A w 3) hw (Or.inl rfl) c3 hW (by rw [g3]; exact hss)
  rw [g3, n3 (w + 8) (by omega) (by omega) (by omega), show fL [A w 0, A w 1, A w 2, A w 3, A w 4, br, sf] 6 = sf from rfl] at h5
  obtain ⟨A4, hA4⟩ : ∃ A4, A4 = up A3 (w + 8) (mix 16 (sr lc lt sf (A w 3) 16) (A (w + 8))) := ⟨_, rfl⟩
  rw [← hA4] at h5
  have g4 : A4 w = fL [A w 0, A w 1, A w 2, A w 3, A w 4, br, sf] := by rw [hA4, up_ne (by omega), g3]
  have n4 : ∀ k, k ≠ w → k ≠ w + 6 → k ≠ w + 7 → k ≠ w + 8 → A4 k = A k := fun k k1 k2 k3 k4 => by rw [hA4, up_ne k4, n3 k k1 k2 k3]
  have c4 : CW A4 w lc lt := hA4 ▸ CW_up (by omega) c3
  have h6 := W_sure (b := b) (u := u) (v := v) (A := A4) (τ := τ) (t := w + 9) (set := A w 4) hw (Or.inr rfl) c4 hW (by rw [g4]; exact hss)
  rw [g4, n4 (w + 9) (by omega) (by omega) (by omega) (by omega), show fL [A w 0, A w 1, A w 2, A w 3, A w 4, br, sf] 6 = sf from rfl] at h6
  have e9 : up A4 (w + 9) (mix 16 (sr lc lt sf (A w 4) 16) (A (w + 9))) = stl A w lc lt br sf := by
    rw [hA4, hA3, hA2, WA_ne (by omega)]
    rfl
  rw [e9] at h6
  simp (disch := first | omega | assumption | exact Nat.le_of_ble_eq_true rfl) only [m59, e59_0, e59_1, e59_2, e59_5, e59_6, e59_9, e59_10, Bool.false_eq_true, gfK, pfK, lnK, isC, alK_n, asK_n, List.getElem?_cons_zero, List.getElem?_cons_succ, List.set_cons_zero, List.set_cons_succ, List.length_cons, List.length_nil, ↓reduceIte, if_true, if_false, eq_self, and_true, true_and, and_self, Option.bind_some, Option.bind_none, Option.toList_some, Option.toList_none, List.cons_append, List.nil_append, mset_at, mset_ne, mset_2, mset_mset, Nat.reduceLT, Nat.reduceAdd, G_W0 hw, S_WA0 hw, h1, e1]
  simp (disch := first | omega | assumption | exact Nat.le_of_ble_eq_true rfl) only [m59, e59_13, e59_14, e59_16, e59_17, e59_20, e59_21, e59_22, e59_23, e59_26, e59_27i, e59_27n, e59_27r, Bool.false_eq_true, gfK, pfK, lnK, isC, alK_n, asK_n, List.getElem?_cons_zero, List.getElem?_cons_succ, List.set_cons_zero, List.set_cons_succ, List.length_cons, List.length_nil, ↓reduceIte, if_true, if_false, eq_self, and_true, true_and, and_self, Option.bind_some, Option.bind_none, Option.toList_some, Option.toList_none, List.cons_append, List.nil_append, mset_at, mset_ne, mset_2, mset_mset, Nat.reduceLT, Nat.reduceAdd, G_WA hw, S_WA hw, h2]
  simp (disch := first | omega | assumption | exact Nat.le_of_ble_eq_true rfl) only [m59, e59_52, e59_53i, e59_53n, e59_53r, Bool.false_eq_true, gfK, pfK, lnK, isC, alK_n, asK_n, List.getElem?_cons_zero, List.getElem?_cons_succ, List.set_cons_zero, List.set_cons_succ, List.length_cons, List.length_nil, ↓reduceIte, if_true, if_false, eq_self, and_true, true_and, and_self, Option.bind_some, Option.bind_none, Option.toList_some, Option.toList_none, List.cons_append, List.nil_append, mset_at, mset_ne, mset_2, mset_mset, Nat.reduceLT, Nat.reduceAdd, h3]
  simp (disch := first | omega | assumption | exact Nat.le_of_ble_eq_true rfl) only [m59, e59_96, e59_97, e59_100, e59_101, e59_102, e59_105, e59_106, e59_109, e59_112, e59_113, e59_114, e59_117, e59_118, e59_121, e59_124, Bool.false_eq_true, gfK, pfK, lnK, isC, alK_n, asK_n, List.getElem?_cons_zero, List.getElem?_cons_succ, List.set_cons_zero, List.set_cons_succ, List.length_cons, List.length_nil, ↓reduceIte, if_true, if_false, eq_self, and_true, true_and, and_self, Option.bind_some, Option.bind_none, Option.toList_some, Option.toList_none, List.cons_append, List.nil_append, mset_at, mset_ne, mset_2, mset_mset, Nat.reduceLT, Nat.reduceAdd, G_W0 hw, h4, g3, g4, fL_s, fL_0, h5, h6]
end WSURE
