/-! THE CLASS'S WORLD: dooms, sure, settle. -/
section WSETTLE
variable {b w : Nat} {u v : Int64} {A : Nat → Nat → Int32} {τ : Nat × Nat × Nat × (Nat → Int32)} {lc : Nat → Nat} {lt : Nat → Nat → Nat} {s d i r : Nat} {S F x y z : Int32} {σ : mS}
theorem W_dm0 (hw : w = 8 ∨ w = 19) (f0 : Nat → Int32) : ∀ (n s : Nat), s + n = 16 → ev 66 2 [some (.ref w), some (.int (nI s)), none, none, none] [] (G b u v (up A (w + 7) (mix s (dm lc lt (A w 5) z 0) f0)) τ) = ev 66 37 [some (.ref w), some (.int (nI 16)), none, none, none] [] (G b u v (up A (w + 7) (mix 16 (dm lc lt (A w 5) z 0) f0)) τ)
  | 0, s, hs => by
    have : s = 16 := by omega
    subst this
    rw [e66_2]
    simp (disch := first | omega | assumption | exact Nat.le_of_ble_eq_true rfl) only [m66, e66_3, e66_5, Bool.false_eq_true, gfK, pfK, lnK, isC, alK_n, asK_n, List.getElem?_cons_zero, List.getElem?_cons_succ, List.set_cons_zero, List.set_cons_succ, List.length_cons, List.length_nil, ↓reduceIte, if_true, if_false, eq_self, and_true, true_and, and_self, Option.bind_some, Option.bind_none, Option.toList_some, Option.toList_none, List.cons_append, List.nil_append, mset_at, mset_ne, mset_2, mset_mset, Nat.reduceLT, Nat.reduceAdd, le_16, Nat.le_refl]
  | n + 1, s, hs => by
    have ih := W_dm0 hw f0 n (s + 1) (by omega)
    have h16 : ¬ 16 ≤ s := by omega
    have h5 : up A (w + 7) (mix s (dm lc lt (A w 5) z 0) f0) w 5 = A w 5 := by rw [up_ne (by omega)]
    rw [← mix_succ] at ih
    rw [e66_2]
    by_cases h0 : bi (A w 5) s = true
    · rw [show dm lc lt (A w 5) z 0 s = 0 from by rw [dm, if_pos h0]] at ih
      simp (disch := first | omega | assumption | exact Nat.le_of_ble_eq_true rfl) only [m66, e66_3, e66_5, e66_8, e66_9, e66_12, e66_13, e66_14, e66_17, e66_18, e66_21, e66_24, e66_25, e66_28, e66_30, e66_31i, e66_31n, e66_31r, e66_34, Bool.false_eq_true, gfK, pfK, lnK, isC, alK_n, asK_n, List.getElem?_cons_zero, List.getElem?_cons_succ, List.set_cons_zero, List.set_cons_succ, List.length_cons, List.length_nil, ↓reduceIte, if_true, if_false, eq_self, and_true, true_and, and_self, Option.bind_some, Option.bind_none, Option.toList_some, Option.toList_none, List.cons_append, List.nil_append, mset_at, mset_ne, mset_2, mset_mset, Nat.reduceLT, Nat.reduceAdd, le_16, h16, G_W0 hw, G_W7 hw, S_W7 hw, h5, up_at, up_up, R_bit, h0, nz1, nI_succ', ih]
    · rw [show dm lc lt (A w 5) z 0 s = -9 from by rw [dm, if_neg h0]] at ih
      simp (disch := first | omega | assumption | exact Nat.le_of_ble_eq_true rfl) only [m66, e66_3, e66_5, e66_8, e66_9, e66_12, e66_13, e66_14, e66_17, e66_18, e66_21, e66_24, e66_25, e66_28, e66_30, e66_31i, e66_31n, e66_31r, e66_34, Bool.false_eq_true, gfK, pfK, lnK, isC, alK_n, asK_n, List.getElem?_cons_zero, List.getElem?_cons_succ, List.set_cons_zero, List.set_cons_succ, List.length_cons, List.length_nil, ↓reduceIte, if_true, if_false, eq_self, and_true, true_and, and_self, Option.bind_some, Option.bind_none, Option.toList_some, Option.toList_none, List.cons_append, List.nil_append, mset_at, mset_ne, mset_2, mset_mset, Nat.reduceLT, Nat.reduceAdd, le_16, h16, G_W0 hw, G_W7 hw, S_W7 hw, h5, up_at, up_up, R_bit, h0, nI_succ', ih, Bool.false_eq_true]
/-- those that fall in a round, over those that have fallen -/
def fallP (lc : Nat → Nat) (lt : Nat → Nat → Nat) (F sf : Int32) (s : Nat) : Bool := !bi (F ||| sf) s && decide (orF (fun d => sty lc lt (65535 &&& (F ^^^ -1)) (s * 8 + d)) 8 0 = 0)
theorem W_dm_in (hw : w = 8 ∨ w = 19) (hC : CW A w lc lt) (hW : WF lc lt) (f0 : Nat → Int32) : ∀ (n s : Nat), s + n = 16 → ev 66 55 [some (.ref w), some (.int F), some (.int x), some (.int (orF (fallP lc lt F (A w 6)) s 0)), some (.int (nI s))] [] (G b u v (up A (w + 7) (mix s (fun s => if fallP lc lt F (A w 6) s = true then x else f0 s) f0)) τ) = ev 66 112 [some (.ref w), some (.int F), some (.int x), some (.int (orF (fallP lc lt F (A w 6)) 16 0)), some (.int (nI 16))] [] (G b u v (up A (w + 7) (mix 16 (fun s => if fallP lc lt F (A w 6) s = true then x else f0 s) f0)) τ)
  | 0, s, hs => by
    have : s = 16 := by omega
    subst this
    rw [e66_55]
    simp (disch := first | omega | assumption | exact Nat.le_of_ble_eq_true rfl) only [m66, e66_57, e66_59, Bool.false_eq_true, gfK, pfK, lnK, isC, alK_n, asK_n, List.getElem?_cons_zero, List.getElem?_cons_succ, List.set_cons_zero, List.set_cons_succ, List.length_cons, List.length_nil, ↓reduceIte, if_true, if_false, eq_self, and_true, true_and, and_self, Option.bind_some, Option.bind_none, Option.toList_some, Option.toList_none, List.cons_append, List.nil_append, mset_at, mset_ne, mset_2, mset_mset, Nat.reduceLT, Nat.reduceAdd, le_16, Nat.le_refl]
  | n + 1, s, hs => by
    have ih := W_dm_in hw hC hW f0 n (s + 1) (by omega)
    have h16 : ¬ 16 ≤ s := by omega
    have h6 : up A (w + 7) (mix s (fun s => if fallP lc lt F (A w 6) s = true then x else f0 s) f0) w 6 = A w 6 := by rw [up_ne (by omega)]
    have hi := fun S => W_into (b := b) (u := u) (v := v) (τ := τ) (S := S) (s := s) hw (CW_up (k := w + 7) (f := mix s (fun s => if fallP lc lt F (A w 6) s = true then x else f0 s) f0) (by omega) hC) hW (by omega)
    rw [e66_55]
    by_cases h0 : bi (F ||| A w 6) s = true
    · have hP : fallP lc lt F (A w 6) s = false := by unfold fallP; rw [h0]; rfl
      rw [orF_f hP, mix_same (by rw [if_neg (by rw [hP]; exact Bool.false_ne_true), mix_ge (by omega)])] at ih
      simp (disch := first | omega | assumption | exact Nat.le_of_ble_eq_true rfl) only [m66, e66_57, e66_59, e66_62, e66_63, e66_64, e66_67, e66_68, e66_70, e66_73, e66_76, e66_77, e66_79, e66_81, e66_82, e66_83, e66_84, e66_85, e66_88, e66_91, e66_92, e66_95, e66_97, e66_98, e66_99, e66_100, e66_101, e66_103, e66_104, e66_105i, e66_105n, e66_105r, e66_106i, e66_106n, e66_106r, e66_109, Bool.false_eq_true, gfK, pfK, lnK, isC, alK_n, asK_n, List.getElem?_cons_zero, List.getElem?_cons_succ, List.set_cons_zero, List.set_cons_succ, List.length_cons, List.length_nil, ↓reduceIte, if_true, if_false, eq_self, and_true, true_and, and_self, Option.bind_some, Option.bind_none, Option.toList_some, Option.toList_none, List.cons_append, List.nil_append, mset_at, mset_ne, mset_2, mset_mset, Nat.reduceLT, Nat.reduceAdd, le_16, h16, G_W0 hw, h6, R_bit, h0, nz1, nI_succ', ih]
    · have h0' := Bool.eq_false_iff.2 h0
      by_cases h1 : orF (fun d => sty lc lt (65535 &&& (F ^^^ -1)) (s * 8 + d)) 8 0 = 0
      · have hP : fallP lc lt F (A w 6) s = true := by unfold fallP; rw [h0', decide_eq_true h1]; rfl
        rw [orF_t hP, ← mix_succ, if_pos hP] at ih
        simp (disch := first | omega | assumption | exact Nat.le_of_ble_eq_true rfl) only [m66, e66_57, e66_59, e66_62, e66_63, e66_64, e66_67, e66_68, e66_70, e66_73, e66_76, e66_77, e66_79, e66_81, e66_82, e66_83, e66_84, e66_85, e66_88, e66_91, e66_92, e66_95, e66_97, e66_98, e66_99, e66_100, e66_101, e66_103, e66_104, e66_105i, e66_105n, e66_105r, e66_106i, e66_106n, e66_106r, e66_109, Bool.false_eq_true, gfK, pfK, lnK, isC, alK_n, asK_n, List.getElem?_cons_zero, List.getElem?_cons_succ, List.set_cons_zero, List.set_cons_succ, List.length_cons, List.length_nil, ↓reduceIte, if_true, if_false, eq_self, and_true, true_and, and_self, Option.bind_some, Option.bind_none, Option.toList_some, Option.toList_none, List.cons_append, List.nil_append, mset_at, mset_ne, mset_2, mset_mset, Nat.reduceLT, Nat.reduceAdd, le_16, h16, G_W0 hw, G_W7 hw, S_W7 hw, h6, up_at, up_up, R_bit, h0, hi, h1, bit_def, nI_succ', ih]
      · have hP : fallP lc lt F (A w 6) s = false := by unfold fallP; rw [decide_eq_false h1, Bool.and_false]
        rw [orF_f hP, mix_same (by rw [if_neg (by rw [hP]; exact Bool.false_ne_true), mix_ge (by omega)])] at ih
        simp (disch := first | omega | assumption | exact Nat.le_of_ble_eq_true rfl) only [m66, e66_57, e66_59, e66_62, e66_63, e66_64, e66_67, e66_68, e66_70, e66_73, e66_76, e66_77, e66_79, e66_81, e66_82, e66_83, e66_84, e66_85, e66_88, e66_91, e66_92, e66_95, e66_97, e66_98, e66_99, e66_100, e66_101, e66_103, e66_104, e66_105i, e66_105n, e66_105r, e66_106i, e66_106n, e66_106r, e66_109, Bool.false_eq_true, gfK, pfK, lnK, isC, alK_n, asK_n, List.getElem?_cons_zero, List.getElem?_cons_succ, List.set_cons_zero, List.set_cons_succ, List.length_cons, List.length_nil, ↓reduceIte, if_true, if_false, eq_self, and_true, true_and, and_self, Option.bind_some, Option.bind_none, Option.toList_some, Option.toList_none, List.cons_append, List.nil_append, mset_at, mset_ne, mset_2, mset_mset, Nat.reduceLT, Nat.reduceAdd, le_16, h16, G_W0 hw, h6, R_bit, h0, hi, h1, nI_succ', ih]
/-- those that have fallen after r rounds -/
def fell (lc : Nat → Nat) (lt : Nat → Nat → Nat) (br sf : Int32) (r : Nat) : Int32 := orF (fun s => decide (¬ dm lc lt br sf r s = -9)) 16 0
theorem fell_bi {br sf : Int32} (hs : s < 16) : bi (fell lc lt br sf r) s = decide (¬ dm lc lt br sf r s = -9) := by
  unfold fell
  rw [bi_orF (by omega) (by omega), bi_0, Bool.false_or, decide_eq_true hs, Bool.true_and]
theorem fell_s16 {br sf : Int32} : S16 (fell lc lt br sf r) := orF_s16 (by omega) s16_0
theorem fallP_t (hW : WF lc lt) {br sf : Int32} (hs : s < 16) : fallP lc lt (fell lc lt br sf r) sf s = true ↔ bi sf s = false ∧ dm lc lt br sf r s = -9 ∧ (∀ d, d < 8 → lc (s * 8 + d) = 0 ∨ ∃ i, i < lc (s * 8 + d) ∧ ¬ dm lc lt br sf r (lt (s * 8 + d) i) = -9) := by
  unfold fallP
  rw [Bool.and_eq_true, bi_or, fell_bi hs, decide_eq_true_eq, orF_0 (by omega), Bool.not_eq_true', Bool.or_eq_false_iff, decide_eq_false_iff_not, Decidable.not_not, and_comm (a := dm lc lt br sf r s = -9), and_assoc]
  refine and_congr_right fun _ => and_congr_right fun _ => forall_congr' fun d => forall_congr' fun hd => ?_
  have hk : s * 8 + d < 128 := by omega
  have hf := (hW _ hk).2
  rw [← Bool.not_eq_true, sty_t hW hk]
  constructor
  · intro h
    by_cases h0 : lc (s * 8 + d) = 0
    · exact Or.inl h0
    · refine Or.inr (Classical.byContradiction fun g => h ⟨by omega, fun i hi => ?_⟩)
      have hi' := hf i hi
      rw [bi_and, bi_65535, decide_eq_true hi', bi_not (by omega), fell_bi hi', decide_eq_false (fun g1 => g ⟨i, hi, g1⟩)]
      rfl
  · rintro (h | ⟨i, hi, h⟩) ⟨g1, g2⟩
    · omega
    · have hi' := hf i hi
      have := g2 i hi
      rw [bi_and, bi_65535, decide_eq_true hi', bi_not (by omega), fell_bi hi', decide_eq_true h] at this
      exact absurd this (by decide)
theorem dm_step (hW : WF lc lt) {br sf : Int32} (hs : s < 16) : dm lc lt br sf (r + 1) s = if fallP lc lt (fell lc lt br sf r) sf s = true then nI (r + 1) else dm lc lt br sf r s := by
  rw [dm]
  by_cases h : fallP lc lt (fell lc lt br sf r) sf s = true
  · rw [if_pos h, if_pos ((fallP_t hW hs).1 h)]
  · rw [if_neg h, if_neg (fun g => h ((fallP_t hW hs).2 g))]
theorem nI_m9 {n : Nat} (h : n < 2147483648) : ¬ nI n = -9 := fun e => (nI_ne9 h).mp e
theorem fell_step (hW : WF lc lt) {br sf : Int32} (hr : r < 100) : fell lc lt br sf r ||| orF (fallP lc lt (fell lc lt br sf r) sf) 16 0 = fell lc lt br sf (r + 1) := by
  refine ext16 (s16_or fell_s16 (orF_s16 (by omega) s16_0)) fell_s16 fun s hs => ?_
  rw [bi_or, bi_orF (by omega) (by omega), bi_0, Bool.false_or, decide_eq_true hs, Bool.true_and, fell_bi hs, fell_bi hs, dm_step hW hs]
  by_cases h : fallP lc lt (fell lc lt br sf r) sf s = true
  · rw [if_pos h, h, decide_eq_true (nI_m9 (n := r + 1) (by omega)), Bool.or_true]
  · rw [if_neg h, Bool.eq_false_iff.2 h, Bool.or_false]
theorem fell_0 {br sf : Int32} (hb : S16 br) : fell lc lt br sf 0 = br := by
  refine ext16 fell_s16 hb fun s hs => ?_
  rw [fell_bi hs, dm]
  by_cases h : bi br s = true
  · rw [if_pos h, h]; decide
  · rw [if_neg h, Bool.eq_false_iff.2 h]; decide
theorem mix_congr {n : Nat} {f g h : Nat → Int32} (e : ∀ i, i < n → f i = g i) : mix n f h = mix n g h := by
  funext i
  unfold mix
  by_cases hi : i < n
  · rw [if_pos hi, if_pos hi, e i hi]
  · rw [if_neg hi, if_neg hi]
theorem lt_16g {i : Nat} (h : i < 2147483648) : ((16 : Int32) < nI i) = (16 < i) := propext (nI_ltI (a := 16) (by decide) h)
theorem W_dm_out (hw : w = 8 ∨ w = 19) (hC : CW A w lc lt) (hW : WF lc lt) (f0 : Nat → Int32) : ∀ (n r : Nat) (l3 l4 : Option Value), r + n = 16 → ev 66 44 [some (.ref w), some (.int (fell lc lt (A w 5) (A w 6) r)), some (.int (nI (r + 1))), l3, l4] [] (G b u v (up A (w + 7) (mix 16 (dm lc lt (A w 5) (A w 6) r) f0)) τ) = some (none, G b u v (up A (w + 7) (mix 16 (dm lc lt (A w 5) (A w 6) 16) f0)) τ)
  | 0, r, l3, l4, hr => by
    have : r = 16 := by omega
    subst this
    rw [e66_44]
    simp (disch := first | omega | assumption | exact Nat.le_of_ble_eq_true rfl) only [m66, e66_45, e66_47, Bool.false_eq_true, gfK, pfK, lnK, isC, alK_n, asK_n, List.getElem?_cons_zero, List.getElem?_cons_succ, List.set_cons_zero, List.set_cons_succ, List.length_cons, List.length_nil, ↓reduceIte, if_true, if_false, eq_self, and_true, true_and, and_self, Option.bind_some, Option.bind_none, Option.toList_some, Option.toList_none, List.cons_append, List.nil_append, mset_at, mset_ne, mset_2, mset_mset, Nat.reduceLT, Nat.reduceAdd, lt_16g, show 16 < 16 + 1 from by omega, e66_122]
  | n + 1, r, l3, l4, hr => by
    have ih := fun l3 l4 => W_dm_out hw hC hW f0 n (r + 1) l3 l4 (by omega)
    have h16 : ¬ 16 < r + 1 := by omega
    have hin := W_dm_in (b := b) (u := u) (v := v) (τ := τ) (F := fell lc lt (A w 5) (A w 6) r) (x := nI (r + 1)) hw hC hW (mix 16 (dm lc lt (A w 5) (A w 6) r) f0) 16 0 rfl
    rw [mix_0, orF] at hin
    have hm : mix 16 (fun s => if fallP lc lt (fell lc lt (A w 5) (A w 6) r) (A w 6) s = true then nI (r + 1) else mix 16 (dm lc lt (A w 5) (A w 6) r) f0 s) (mix 16 (dm lc lt (A w 5) (A w 6) r) f0) = mix 16 (dm lc lt (A w 5) (A w 6) (r + 1)) f0 := by
      rw [mix_mix]
      exact mix_congr fun s hs => by rw [dm_step hW hs, mix_lt hs]
    rw [hm, ← lit_0] at hin
    rw [e66_44]
    simp (disch := first | omega | assumption | exact Nat.le_of_ble_eq_true rfl) only [m66, e66_45, e66_47, e66_50, e66_51i, e66_51n, e66_51r, e66_52, e66_53i, e66_53n, e66_53r, Bool.false_eq_true, gfK, pfK, lnK, isC, alK_n, asK_n, List.getElem?_cons_zero, List.getElem?_cons_succ, List.set_cons_zero, List.set_cons_succ, List.length_cons, List.length_nil, ↓reduceIte, if_true, if_false, eq_self, and_true, true_and, and_self, Option.bind_some, Option.bind_none, Option.toList_some, Option.toList_none, List.cons_append, List.nil_append, mset_at, mset_ne, mset_2, mset_mset, Nat.reduceLT, Nat.reduceAdd, lt_16g, h16, hin]
    simp (disch := first | omega | assumption | exact Nat.le_of_ble_eq_true rfl) only [m66, e66_112, e66_113, e66_114, e66_115i, e66_115n, e66_115r, e66_116i, e66_116n, e66_116r, e66_119, Bool.false_eq_true, gfK, pfK, lnK, isC, alK_n, asK_n, List.getElem?_cons_zero, List.getElem?_cons_succ, List.set_cons_zero, List.set_cons_succ, List.length_cons, List.length_nil, ↓reduceIte, if_true, if_false, eq_self, and_true, true_and, and_self, Option.bind_some, Option.bind_none, Option.toList_some, Option.toList_none, List.cons_append, List.nil_append, mset_at, mset_ne, mset_2, mset_mset, Nat.reduceLT, Nat.reduceAdd, fell_step hW (show r < 100 by omega), nI_succ', ih]
theorem W_dooms (hw : w = 8 ∨ w = 19) (hC : CW A w lc lt) (hW : WF lc lt) (hb : S16 (A w 5)) : evM 66 [.ref w] (G b u v A τ) = some (none, G b u v (up A (w + 7) (mix 16 (dm lc lt (A w 5) (A w 6) 16) (A (w + 7)))) τ) := by
  have h0 := W_dm0 (b := b) (u := u) (v := v) (A := A) (τ := τ) (lc := lc) (lt := lt) (z := A w 6) hw (A (w + 7)) 16 0 rfl
  rw [mix_0, up_same, ← lit_0] at h0
  have h1 := W_dm_out (b := b) (u := u) (v := v) (τ := τ) hw hC hW (A (w + 7)) 16 0 none none rfl
  rw [fell_0 hb, show nI (0 + 1) = 1 from rfl] at h1
  have h5 : up A (w + 7) (mix 16 (dm lc lt (A w 5) (A w 6) 0) (A (w + 7))) w 5 = A w 5 := by rw [up_ne (by omega)]
  simp (disch := first | omega | assumption | exact Nat.le_of_ble_eq_true rfl) only [m66, e66_0, e66_1i, e66_1n, e66_1r, Bool.false_eq_true, gfK, pfK, lnK, isC, alK_n, asK_n, List.getElem?_cons_zero, List.getElem?_cons_succ, List.set_cons_zero, List.set_cons_succ, List.length_cons, List.length_nil, ↓reduceIte, if_true, if_false, eq_self, and_true, true_and, and_self, Option.bind_some, Option.bind_none, Option.toList_some, Option.toList_none, List.cons_append, List.nil_append, mset_at, mset_ne, mset_2, mset_mset, Nat.reduceLT, Nat.reduceAdd, h0]
  simp (disch := first | omega | assumption | exact Nat.le_of_ble_eq_true rfl) only [m66, e66_37, e66_38, e66_41i, e66_41n, e66_41r, e66_42, e66_43i, e66_43n, e66_43r, Bool.false_eq_true, gfK, pfK, lnK, isC, alK_n, asK_n, List.getElem?_cons_zero, List.getElem?_cons_succ, List.set_cons_zero, List.set_cons_succ, List.length_cons, List.length_nil, ↓reduceIte, if_true, if_false, eq_self, and_true, true_and, and_self, Option.bind_some, Option.bind_none, Option.toList_some, Option.toList_none, List.cons_append, List.nil_append, mset_at, mset_ne, mset_2, mset_mset, Nat.reduceLT, Nat.reduceAdd, G_W0 hw, h5, h1]
end WSETTLE
