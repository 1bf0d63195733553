/-! ROUNDS on both sides. -/
abbrev R4 : Type := Nat × Int32 × Int32 × Int32
def noteF (b : Nat) (len : Int32) (row : Nat) (s : R4) : R4 := if s.1 = 0 then (s.1 + 1, nI b, len, nI row) else (s.1 + 1, s.2)
/-- where a doing may lead from a set -/
def ledI (lc : Nat → Nat) (lt : Nat → Nat → Nat) (S : Int32) (d : Nat) : Nat → Int32
  | 0 => 0
  | n + 1 => if bi S n = true then ledI lc lt S d n ||| setI (lt (n * 8 + d)) (lc (n * 8 + d)) else ledI lc lt S d n
def led (lc : Nat → Nat) (lt : Nat → Nat → Nat) (S : Int32) (d : Nat) : Int32 := ledI lc lt S d 16
def stp2 (lc : Nat → Nat) (lt : Nat → Nat → Nat) (b fr to i : Nat) (s : R4) : R4 := if bi (led lc lt (led lc lt (bit fr) (i / 8)) (i % 8)) to = true then noteF b 2 (i / 8 + 8 * (i % 8)) s else s
def stp3 (lc : Nat → Nat) (lt : Nat → Nat → Nat) (b fr to i : Nat) (s : R4) : R4 := if bi (led lc lt (led lc lt (led lc lt (bit fr) (i / 64)) (i / 8 % 8)) (i % 8)) to = true then noteF b 3 (i / 64 + 8 * (i / 8 % 8) + 64 * (i % 8)) s else s
def barF (lc : Nat → Nat) (lt : Nat → Nat → Nat) (fr to : Nat → Nat) (b : Nat) (s : R4) : R4 := fold (stp3 lc lt b (fr b) (to b)) 0 512 (fold (stp2 lc lt b (fr b) (to b)) 0 64 s)
theorem barF_def {lc : Nat → Nat} {lt : Nat → Nat → Nat} {fr to : Nat → Nat} {b : Nat} {s : R4} : barF lc lt fr to b s = fold (stp3 lc lt b (fr b) (to b)) 0 512 (fold (stp2 lc lt b (fr b) (to b)) 0 64 s) := by unfold barF; rfl
def rnd (lc : Nat → Nat) (lt : Nat → Nat → Nat) (nb : Nat) (fr to : Nat → Nat) : R4 := fold (barF lc lt fr to) 0 nb (0, -9, -9, -9)
theorem fold_z {α : Type} {f : Nat → α → α} {i : Nat} {s : α} : fold f i 0 s = s := rfl
theorem fold_n {α : Type} {f : Nat → α → α} {i n : Nat} {s : α} : fold f i (n + 1) s = fold f (i + 1) n (f i s) := rfl
theorem fold_app {α : Type} {f : Nat → α → α} : ∀ (m i n : Nat) (s : α), fold f i (m + n) s = fold f (i + m) n (fold f i m s)
  | 0, i, n, s => by rw [Nat.zero_add]; rfl
  | m + 1, i, n, s => by
    rw [show m + 1 + n = (m + n) + 1 by omega, fold, fold_app m (i + 1) n, fold, show i + 1 + m = i + (m + 1) by omega]
theorem noteF_1 {b : Nat} {len : Int32} {row : Nat} {s : R4} : (noteF b len row s).1 = s.1 + 1 := by
  unfold noteF
  split <;> rfl
theorem fold_le {f : Nat → R4 → R4} {k : Nat} (h : ∀ i s, (f i s).1 ≤ s.1 + k) : ∀ (n i : Nat) (s : R4), (fold f i n s).1 ≤ s.1 + n * k
  | 0, i, s => Nat.le_add_right _ _
  | n + 1, i, s => by
    have h1 := fold_le h n (i + 1) (f i s)
    have h2 := h i s
    rw [fold]
    rw [Nat.succ_mul]
    omega
theorem stp2_le {lc : Nat → Nat} {lt : Nat → Nat → Nat} {b fr to i : Nat} {s : R4} : (stp2 lc lt b fr to i s).1 ≤ s.1 + 1 := by
  unfold stp2
  split
  · rw [noteF_1]
    exact Nat.le_refl _
  · omega
theorem stp3_le {lc : Nat → Nat} {lt : Nat → Nat → Nat} {b fr to i : Nat} {s : R4} : (stp3 lc lt b fr to i s).1 ≤ s.1 + 1 := by
  unfold stp3
  split
  · rw [noteF_1]
    exact Nat.le_refl _
  · omega
theorem barF_le {lc : Nat → Nat} {lt : Nat → Nat → Nat} {fr to : Nat → Nat} {b : Nat} {s : R4} : (barF lc lt fr to b s).1 ≤ s.1 + 576 := by
  have h1 := fold_le (f := stp2 lc lt b (fr b) (to b)) (k := 1) (fun i s => stp2_le) 64 0 s
  have h2 := fold_le (f := stp3 lc lt b (fr b) (to b)) (k := 1) (fun i s => stp3_le) 512 0 (fold (stp2 lc lt b (fr b) (to b)) 0 64 s)
  unfold barF
  omega
/-- none noted yet, or a bar noted -/
def okR (s : R4) : Prop := (s.1 = 0 ∧ s.2.1 = -9) ∨ (0 < s.1 ∧ ∃ b, b < 100 ∧ s.2.1 = nI b)
theorem okR_note {b : Nat} {len : Int32} {row : Nat} {s : R4} (hb : b < 100) (h : okR s) : okR (noteF b len row s) := by
  unfold noteF
  rcases h with ⟨h1, h2⟩ | ⟨h1, b', h2, h3⟩
  · rw [if_pos h1]
    exact Or.inr ⟨by show 0 < s.1 + 1; omega, b, hb, rfl⟩
  · rw [if_neg (by omega)]
    exact Or.inr ⟨by show 0 < s.1 + 1; omega, b', h2, h3⟩
theorem okR_2 {lc : Nat → Nat} {lt : Nat → Nat → Nat} {b fr to i : Nat} {s : R4} (hb : b < 100) (h : okR s) : okR (stp2 lc lt b fr to i s) := by
  unfold stp2
  split
  · exact okR_note hb h
  · exact h
theorem okR_3 {lc : Nat → Nat} {lt : Nat → Nat → Nat} {b fr to i : Nat} {s : R4} (hb : b < 100) (h : okR s) : okR (stp3 lc lt b fr to i s) := by
  unfold stp3
  split
  · exact okR_note hb h
  · exact h
theorem fold_inv' {α : Type} {f : Nat → α → α} {P : α → Prop} (h : ∀ i s, P s → P (f i s)) : ∀ (n i : Nat) (s : α), P s → P (fold f i n s)
  | 0, i, s, hs => hs
  | n + 1, i, s, hs => fold_inv' h n (i + 1) (f i s) (h i s hs)
theorem okR_bar {lc : Nat → Nat} {lt : Nat → Nat → Nat} {fr to : Nat → Nat} {b : Nat} {s : R4} (hb : b < 100) (h : okR s) : okR (barF lc lt fr to b s) := fold_inv' (fun i s hs => okR_3 hb hs) 512 0 _ (fold_inv' (fun i s hs => okR_2 hb hs) 64 0 _ h)
def BF (nb : Nat) (fr to : Nat → Nat) : Prop := nb ≤ 10 ∧ ∀ j, j < nb → fr j < 16 ∧ to j < 16
def BRc (A : Nat → Nat → Int32) (w nb : Nat) (fr to : Nat → Nat) : Prop := A w 1 = nI nb ∧ ∀ j, j < nb → A (w + 4) j = nI (fr j) ∧ A (w + 5) j = nI (to j)
def BRm (A : Nat → Nat → Int32) (nb : Nat) (fr to : Nat → Nat) : Prop := A 60 11 = nI nb ∧ ∀ j, j < nb → A 63 (2 * j) = nI (fr j) ∧ A 63 (2 * j + 1) = nI (to j)
/-- the state with rounds' numbers put in -/
def RSA (A : Nat → Nat → Int32) (w : Nat) (s : R4) : Nat → Nat → Int32 := up A (w + 10) (fL [nI s.1, s.2.1, s.2.2.1, s.2.2.2])
theorem led_s16 {lc : Nat → Nat} {lt : Nat → Nat → Nat} (hW : WF lc lt) {S : Int32} {d : Nat} (hd : d < 8) : S16 (led lc lt S d) := by
  have : ∀ n, n ≤ 16 → S16 (ledI lc lt S d n) := by
    intro n
    induction n with
    | zero => intro _; exact s16_0
    | succ n ih =>
      intro hn
      rw [ledI]
      split
      · exact s16_or (ih (by omega)) (setI_s16 (hW (n * 8 + d) (by omega)).2)
      · exact ih (by omega)
  exact this 16 (Nat.le_refl _)
section ROUNDS
variable {b w : Nat} {u v : Int64} {A : Nat → Nat → Int32} {τ : Nat × Nat × Nat × (Nat → Int32)} {lc : Nat → Nat} {lt : Nat → Nat → Nat} {fr to : Nat → Nat} {nb i j d e f row : Nat} {x y z S : Int32} {σ : mS} {s : R4} {l3 l4 l5 l6 l7 l9 l10 l11 l12 : Option Value}
theorem W_ledFrom_loop (hw : w = 8 ∨ w = 19) (hC : CW A w lc lt) (hd : d < 8) : ∀ (n s : Nat), s + n = 16 → ev 68 5 [some (.ref w), some (.int S), some (.int (nI d)), some (.int (ledI lc lt S d s)), some (.int (nI s))] [] (G b u v A τ) = some (some (.int (led lc lt S d)), (G b u v A τ))
  | 0, s, hs => by
    have : s = 16 := by omega
    subst this
    rw [e68_5]
    simp (disch := first | omega | assumption | exact Nat.le_of_ble_eq_true rfl) only [m68, e68_0, e68_1i, e68_1n, e68_1r, e68_2, e68_3i, e68_3n, e68_3r, e68_7, e68_9, e68_12, e68_13, e68_15, e68_18, e68_21, e68_22, e68_23, e68_25, e68_26, e68_29, e68_30i, e68_30n, e68_30r, e68_31i, e68_31n, e68_31r, e68_34, e68_37, e68_38, Bool.false_eq_true, Bool.true_eq_false, gfK, pfK, lnK, isC, alK_n, asK_n, List.getElem?_cons_zero, List.getElem?_cons_succ, List.set_cons_zero, List.set_cons_succ, List.length_cons, List.length_nil, ↓reduceIte, if_true, if_false, eq_self, and_true, true_and, and_self, Option.bind_some, Option.bind_none, Option.toList_some, Option.toList_none, List.cons_append, List.nil_append, mset_at, mset_ne, mset_2, mset_mset, Nat.reduceLT, Nat.reduceAdd, le_16, Nat.le_refl, led]
  | n + 1, s, hs => by
    have ih := W_ledFrom_loop hw hC hd n (s + 1) (by omega)
    have h16 : ¬ 16 ≤ s := by omega
    rw [e68_5]
    by_cases h : bi S s = true
    · rw [show ledI lc lt S d (s + 1) = ledI lc lt S d s ||| setI (lt (s * 8 + d)) (lc (s * 8 + d)) from by rw [ledI, if_pos h]] at ih
      simp (disch := first | omega | assumption | exact Nat.le_of_ble_eq_true rfl) only [m68, e68_0, e68_1i, e68_1n, e68_1r, e68_2, e68_3i, e68_3n, e68_3r, e68_7, e68_9, e68_12, e68_13, e68_15, e68_18, e68_21, e68_22, e68_23, e68_25, e68_26, e68_29, e68_30i, e68_30n, e68_30r, e68_31i, e68_31n, e68_31r, e68_34, e68_37, e68_38, Bool.false_eq_true, Bool.true_eq_false, gfK, pfK, lnK, isC, alK_n, asK_n, List.getElem?_cons_zero, List.getElem?_cons_succ, List.set_cons_zero, List.set_cons_succ, List.length_cons, List.length_nil, ↓reduceIte, if_true, if_false, eq_self, and_true, true_and, and_self, Option.bind_some, Option.bind_none, Option.toList_some, Option.toList_none, List.cons_append, List.nil_append, mset_at, mset_ne, mset_2, mset_mset, Nat.reduceLT, Nat.reduceAdd, le_16, h16, R_bit, h, nz1, G_W0 hw, W_lotSet hw hC (show s < 16 by omega) hd, nI_succ', ih]
    · rw [show ledI lc lt S d (s + 1) = ledI lc lt S d s from by rw [ledI, if_neg h]] at ih
      simp (disch := first | omega | assumption | exact Nat.le_of_ble_eq_true rfl) only [m68, e68_0, e68_1i, e68_1n, e68_1r, e68_2, e68_3i, e68_3n, e68_3r, e68_7, e68_9, e68_12, e68_13, e68_15, e68_18, e68_21, e68_22, e68_23, e68_25, e68_26, e68_29, e68_30i, e68_30n, e68_30r, e68_31i, e68_31n, e68_31r, e68_34, e68_37, e68_38, Bool.false_eq_true, Bool.true_eq_false, gfK, pfK, lnK, isC, alK_n, asK_n, List.getElem?_cons_zero, List.getElem?_cons_succ, List.set_cons_zero, List.set_cons_succ, List.length_cons, List.length_nil, ↓reduceIte, if_true, if_false, eq_self, and_true, true_and, and_self, Option.bind_some, Option.bind_none, Option.toList_some, Option.toList_none, List.cons_append, List.nil_append, mset_at, mset_ne, mset_2, mset_mset, Nat.reduceLT, Nat.reduceAdd, le_16, h16, R_bit, h, nI_succ', ih]
theorem W_ledFrom (hw : w = 8 ∨ w = 19) (hC : CW A w lc lt) (hd : d < 8) : evM 68 [.ref w, .int S, .int (nI d)] (G b u v A τ) = some (some (.int (led lc lt S d)), (G b u v A τ)) := by
  have := W_ledFrom_loop (b := b) (u := u) (v := v) (τ := τ) (S := S) hw hC hd 16 0 rfl
  rw [show ledI lc lt S d 0 = 0 from rfl, ← lit_0] at this
  simp (disch := first | omega | assumption | exact Nat.le_of_ble_eq_true rfl) only [m68, e68_0, e68_1i, e68_1n, e68_1r, e68_2, e68_3i, e68_3n, e68_3r, e68_7, e68_9, e68_12, e68_13, e68_15, e68_18, e68_21, e68_22, e68_23, e68_25, e68_26, e68_29, e68_30i, e68_30n, e68_30r, e68_31i, e68_31n, e68_31r, e68_34, e68_37, e68_38, Bool.false_eq_true, Bool.true_eq_false, gfK, pfK, lnK, isC, alK_n, asK_n, List.getElem?_cons_zero, List.getElem?_cons_succ, List.set_cons_zero, List.set_cons_succ, List.length_cons, List.length_nil, ↓reduceIte, if_true, if_false, eq_self, and_true, true_and, and_self, Option.bind_some, Option.bind_none, Option.toList_some, Option.toList_none, List.cons_append, List.nil_append, mset_at, mset_ne, mset_2, mset_mset, Nat.reduceLT, Nat.reduceAdd, this]
theorem V_comes_loop (hC : MW A lc lt) (hW : WF lc lt) (hd : d < 8) : ∀ (n s : Nat), s + n = 16 → ev 204 5 [some (.ref 60), some (.int S), some (.int (nI d)), some (.int (ledI lc lt S d s)), some (.int (nI s))] [] (G b u v A τ) = some (some (.int (led lc lt S d)), (G b u v A τ))
  | 0, s, hs => by
    have : s = 16 := by omega
    subst this
    rw [e204_5]
    simp (disch := first | omega | assumption | exact Nat.le_of_ble_eq_true rfl) only [m204, e204_0, e204_1i, e204_1n, e204_1r, e204_2, e204_3i, e204_3n, e204_3r, e204_7, e204_9, e204_12, e204_13, e204_14, e204_16, e204_17, e204_18, e204_19, e204_20, e204_23, e204_24, e204_26, e204_27, e204_30, e204_33, e204_34, e204_35i, e204_35n, e204_35r, e204_36i, e204_36n, e204_36r, e204_39, e204_42, e204_43, Bool.false_eq_true, Bool.true_eq_false, gfK, pfK, lnK, isC, alK_n, asK_n, List.getElem?_cons_zero, List.getElem?_cons_succ, List.set_cons_zero, List.set_cons_succ, List.length_cons, List.length_nil, ↓reduceIte, if_true, if_false, eq_self, and_true, true_and, and_self, Option.bind_some, Option.bind_none, Option.toList_some, Option.toList_none, List.cons_append, List.nil_append, mset_at, mset_ne, mset_2, mset_mset, Nat.reduceLT, Nat.reduceAdd, le_16, Nat.le_refl, led]
  | n + 1, s, hs => by
    have ih := V_comes_loop hC hW hd n (s + 1) (by omega)
    have h16 : ¬ 16 ≤ s := by omega
    rw [e204_5]
    by_cases h : bi S s = true
    · rw [show ledI lc lt S d (s + 1) = ledI lc lt S d s ||| setI (lt (s * 8 + d)) (lc (s * 8 + d)) from by rw [ledI, if_pos h]] at ih
      simp (disch := first | omega | assumption | exact Nat.le_of_ble_eq_true rfl) only [m204, e204_0, e204_1i, e204_1n, e204_1r, e204_2, e204_3i, e204_3n, e204_3r, e204_7, e204_9, e204_12, e204_13, e204_14, e204_16, e204_17, e204_18, e204_19, e204_20, e204_23, e204_24, e204_26, e204_27, e204_30, e204_33, e204_34, e204_35i, e204_35n, e204_35r, e204_36i, e204_36n, e204_36r, e204_39, e204_42, e204_43, Bool.false_eq_true, Bool.true_eq_false, gfK, pfK, lnK, isC, alK_n, asK_n, List.getElem?_cons_zero, List.getElem?_cons_succ, List.set_cons_zero, List.set_cons_succ, List.length_cons, List.length_nil, ↓reduceIte, if_true, if_false, eq_self, and_true, true_and, and_self, Option.bind_some, Option.bind_none, Option.toList_some, Option.toList_none, List.cons_append, List.nil_append, mset_at, mset_ne, mset_2, mset_mset, Nat.reduceLT, Nat.reduceAdd, le_16, h16, shr_1, h, G_60, V_lotSet hC hW (show s < 16 by omega) hd, nI_succ', ih]
    · rw [show ledI lc lt S d (s + 1) = ledI lc lt S d s from by rw [ledI, if_neg h]] at ih
      simp (disch := first | omega | assumption | exact Nat.le_of_ble_eq_true rfl) only [m204, e204_0, e204_1i, e204_1n, e204_1r, e204_2, e204_3i, e204_3n, e204_3r, e204_7, e204_9, e204_12, e204_13, e204_14, e204_16, e204_17, e204_18, e204_19, e204_20, e204_23, e204_24, e204_26, e204_27, e204_30, e204_33, e204_34, e204_35i, e204_35n, e204_35r, e204_36i, e204_36n, e204_36r, e204_39, e204_42, e204_43, Bool.false_eq_true, Bool.true_eq_false, gfK, pfK, lnK, isC, alK_n, asK_n, List.getElem?_cons_zero, List.getElem?_cons_succ, List.set_cons_zero, List.set_cons_succ, List.length_cons, List.length_nil, ↓reduceIte, if_true, if_false, eq_self, and_true, true_and, and_self, Option.bind_some, Option.bind_none, Option.toList_some, Option.toList_none, List.cons_append, List.nil_append, mset_at, mset_ne, mset_2, mset_mset, Nat.reduceLT, Nat.reduceAdd, le_16, h16, shr_1, h, Int32.or_zero, nI_succ', ih]
theorem V_comes (hC : MW A lc lt) (hW : WF lc lt) (hd : d < 8) : evM 204 [.ref 60, .int S, .int (nI d)] (G b u v A τ) = some (some (.int (led lc lt S d)), (G b u v A τ)) := by
  have := V_comes_loop (b := b) (u := u) (v := v) (τ := τ) (S := S) hC hW hd 16 0 rfl
  rw [show ledI lc lt S d 0 = 0 from rfl, ← lit_0] at this
  simp (disch := first | omega | assumption | exact Nat.le_of_ble_eq_true rfl) only [m204, e204_0, e204_1i, e204_1n, e204_1r, e204_2, e204_3i, e204_3n, e204_3r, e204_7, e204_9, e204_12, e204_13, e204_14, e204_16, e204_17, e204_18, e204_19, e204_20, e204_23, e204_24, e204_26, e204_27, e204_30, e204_33, e204_34, e204_35i, e204_35n, e204_35r, e204_36i, e204_36n, e204_36r, e204_39, e204_42, e204_43, Bool.false_eq_true, Bool.true_eq_false, gfK, pfK, lnK, isC, alK_n, asK_n, List.getElem?_cons_zero, List.getElem?_cons_succ, List.set_cons_zero, List.set_cons_succ, List.length_cons, List.length_nil, ↓reduceIte, if_true, if_false, eq_self, and_true, true_and, and_self, Option.bind_some, Option.bind_none, Option.toList_some, Option.toList_none, List.cons_append, List.nil_append, mset_at, mset_ne, mset_2, mset_mset, Nat.reduceLT, Nat.reduceAdd, this]
theorem G_RSA (hw : w = 8 ∨ w = 19) : (G b u v (RSA A w s) τ).1 (w + 10) = some (.inr (2, [.int (nI s.1), .int s.2.1, .int s.2.2.1, .int s.2.2.2])) := (G_W10 hw).trans (by rw [RSA, up_at]; rfl)
theorem S_RSA (hw : w = 8 ∨ w = 19) {n : Nat} : mset (G b u v (RSA A w s) τ) (w + 10) (.inr (2, [.int (nI n), .int x, .int y, .int z])) = G b u v (RSA A w (n, x, y, z)) τ := (S_W10 hw).trans (congrArg (fun X => G b u v X τ) up_up)
theorem W_note (hw : w = 8 ∨ w = 19) (hs : s.1 < 100000) : evM 30 [.ref (w + 10), .int (nI j), .int x, .int (nI row)] (G b u v (RSA A w s) τ) = some (none, G b u v (RSA A w (noteF j x row s)) τ) := by
  unfold noteF
  by_cases h : s.1 = 0
  · rw [if_pos h]
    have e : (nI s.1 = 0) = True := eq_true (by rw [h]; rfl)
    simp (disch := first | omega | assumption | exact Nat.le_of_ble_eq_true rfl) only [m30, e30_0, e30_1, e30_4, e30_7, e30_8, e30_9, e30_12, e30_13, e30_14, e30_17, e30_18, e30_19, e30_22, e30_23i, e30_23r, e30_24, e30_27, e30_28, e30_29, e30_32, Bool.false_eq_true, Bool.true_eq_false, gfK, pfK, lnK, isC, alK_n, asK_n, List.getElem?_cons_zero, List.getElem?_cons_succ, List.set_cons_zero, List.set_cons_succ, List.length_cons, List.length_nil, ↓reduceIte, if_true, if_false, eq_self, and_true, true_and, and_self, Option.bind_some, Option.bind_none, Option.toList_some, Option.toList_none, List.cons_append, List.nil_append, mset_at, mset_ne, mset_2, mset_mset, Nat.reduceLT, Nat.reduceAdd, G_RSA hw, S_RSA hw, e, nI_succ']
  · rw [if_neg h]
    have e : (nI s.1 = 0) = False := eq_false (fun g => h (nI_inj (by omega) (by omega) g))
    simp (disch := first | omega | assumption | exact Nat.le_of_ble_eq_true rfl) only [m30, e30_0, e30_1, e30_4, e30_7, e30_8, e30_9, e30_12, e30_13, e30_14, e30_17, e30_18, e30_19, e30_22, e30_23i, e30_23r, e30_24, e30_27, e30_28, e30_29, e30_32, Bool.false_eq_true, Bool.true_eq_false, gfK, pfK, lnK, isC, alK_n, asK_n, List.getElem?_cons_zero, List.getElem?_cons_succ, List.set_cons_zero, List.set_cons_succ, List.length_cons, List.length_nil, ↓reduceIte, if_true, if_false, eq_self, and_true, true_and, and_self, Option.bind_some, Option.bind_none, Option.toList_some, Option.toList_none, List.cons_append, List.nil_append, mset_at, mset_ne, mset_2, mset_mset, Nat.reduceLT, Nat.reduceAdd, G_RSA hw, S_RSA hw, e, nI_succ']
theorem RSA_w {k : Nat} (h : k ≠ w + 10) : RSA A w s k = A k := up_ne h
theorem W_pairs_in (hw : w = 8 ∨ w = 19) (hC : CW A w lc lt) (hW : WF lc lt) (hB : BF nb fr to) (hR : BRc A w nb fr to) (hj : j < nb) (hd : d < 8) : ∀ (n e : Nat) (s : R4), e + n = 8 → s.1 + n < 90000 → ev 29 49 [some (.ref (w + 10)), some (.ref w), some (.int (nI j)), some (.int (nI d)), some (.int (led lc lt (bit (fr j)) d)), some (.int (nI e))] [] (G b u v (RSA A w s) τ) = ev 29 95 [some (.ref (w + 10)), some (.ref w), some (.int (nI j)), some (.int (nI d)), some (.int (led lc lt (bit (fr j)) d)), some (.int (nI 8))] [] (G b u v (RSA A w (fold (stp2 lc lt j (fr j) (to j)) (8 * d + e) n s)) τ)
  | 0, e, s, he, hs => by
    have : e = 8 := by omega
    subst this
    rw [e29_49]
    simp (disch := first | omega | assumption | exact Nat.le_of_ble_eq_true rfl) only [m29, e29_51, e29_53, Bool.false_eq_true, Bool.true_eq_false, gfK, pfK, lnK, isC, alK_n, asK_n, List.getElem?_cons_zero, List.getElem?_cons_succ, List.set_cons_zero, List.set_cons_succ, List.length_cons, List.length_nil, ↓reduceIte, if_true, if_false, eq_self, and_true, true_and, and_self, Option.bind_some, Option.bind_none, Option.toList_some, Option.toList_none, List.cons_append, List.nil_append, mset_at, mset_ne, mset_2, mset_mset, Nat.reduceLT, Nat.reduceAdd, le_8, Nat.le_refl, fold_z]
  | n + 1, e, s, he, hs => by
    have h8 : ¬ 8 ≤ e := by omega
    have he' : e < 8 := by omega
    have hle := stp2_le (lc := lc) (lt := lt) (b := j) (fr := fr j) (to := to j) (i := 8 * d + e) (s := s)
    have ih := W_pairs_in hw hC hW hB hR hj hd n (e + 1) (stp2 lc lt j (fr j) (to j) (8 * d + e) s) (by omega) (by omega)
    have q1 := (hR.2 j hj).2
    have q2 := (hB.2 j hj).2
    have q3 := hB.1
    have hl := fun S => W_ledFrom (b := b) (u := u) (v := v) (τ := τ) (S := S) (A := RSA A w s) hw (CW_up (k := w + 10) (by omega) hC) he'
    have e5 : RSA A w s (w + 5) j = nI (to j) := by rw [RSA_w (by omega), q1]
    have hn := fun r => W_note (b := b) (u := u) (v := v) (τ := τ) (A := A) (s := s) (w := w) (j := j) (x := 2) (row := r) hw (by omega)
    rw [show fold (stp2 lc lt j (fr j) (to j)) (8 * d + e) (n + 1) s = fold (stp2 lc lt j (fr j) (to j)) (8 * d + (e + 1)) n (stp2 lc lt j (fr j) (to j) (8 * d + e) s) from rfl, ← ih]
    rw [e29_49]
    unfold stp2
    rw [show (8 * d + e) / 8 = d by omega, show (8 * d + e) % 8 = e by omega]
    by_cases h : bi (led lc lt (led lc lt (bit (fr j)) d) e) (to j) = true
    · rw [if_pos h]
      simp (disch := first | omega | assumption | exact Nat.le_of_ble_eq_true rfl) only [m29, e29_51, e29_53, e29_56, e29_57, e29_59, e29_61, e29_64, e29_65, e29_68, e29_69, e29_70, e29_73, e29_76, e29_77, e29_78, e29_79, e29_80, e29_82, e29_84, e29_85, e29_86, e29_89i, e29_89n, e29_89r, e29_92, Bool.false_eq_true, Bool.true_eq_false, gfK, pfK, lnK, isC, alK_n, asK_n, List.getElem?_cons_zero, List.getElem?_cons_succ, List.set_cons_zero, List.set_cons_succ, List.length_cons, List.length_nil, ↓reduceIte, if_true, if_false, eq_self, and_true, true_and, and_self, Option.bind_some, Option.bind_none, Option.toList_some, Option.toList_none, List.cons_append, List.nil_append, mset_at, mset_ne, mset_2, mset_mset, Nat.reduceLT, Nat.reduceAdd, le_8, h8, G_W0 hw, G_W5 hw, hl, e5, R_bit, h, nz1, lm_8, nI_addN, G_RSA hw, hn, nI_succ']
    · rw [if_neg h]
      simp (disch := first | omega | assumption | exact Nat.le_of_ble_eq_true rfl) only [m29, e29_51, e29_53, e29_56, e29_57, e29_59, e29_61, e29_64, e29_65, e29_68, e29_69, e29_70, e29_73, e29_76, e29_77, e29_78, e29_79, e29_80, e29_82, e29_84, e29_85, e29_86, e29_89i, e29_89n, e29_89r, e29_92, Bool.false_eq_true, Bool.true_eq_false, gfK, pfK, lnK, isC, alK_n, asK_n, List.getElem?_cons_zero, List.getElem?_cons_succ, List.set_cons_zero, List.set_cons_succ, List.length_cons, List.length_nil, ↓reduceIte, if_true, if_false, eq_self, and_true, true_and, and_self, Option.bind_some, Option.bind_none, Option.toList_some, Option.toList_none, List.cons_append, List.nil_append, mset_at, mset_ne, mset_2, mset_mset, Nat.reduceLT, Nat.reduceAdd, le_8, h8, G_W0 hw, G_W5 hw, hl, e5, R_bit, h, nI_succ']
theorem W_pairs_out (hw : w = 8 ∨ w = 19) (hC : CW A w lc lt) (hW : WF lc lt) (hB : BF nb fr to) (hR : BRc A w nb fr to) (hj : j < nb) : ∀ (n d : Nat) (s : R4) (l4 l5 : Option Value), d + n = 8 → s.1 + 8 * n < 90000 → ev 29 25 [some (.ref (w + 10)), some (.ref w), some (.int (nI j)), some (.int (nI d)), l4, l5] [] (G b u v (RSA A w s) τ) = some (none, G b u v (RSA A w (fold (stp2 lc lt j (fr j) (to j)) (8 * d) (8 * n) s)) τ)
  | 0, d, s, l4, l5, hd, hs => by
    have : d = 8 := by omega
    subst this
    rw [e29_25]
    simp (disch := first | omega | assumption | exact Nat.le_of_ble_eq_true rfl) only [m29, e29_26, e29_28, e29_31, e29_32, e29_33, e29_34, e29_37, e29_38, e29_39, e29_40, e29_41, e29_44i, e29_44n, e29_44r, e29_46, e29_47i, e29_47n, e29_47r, e29_51, e29_53, e29_56, e29_57, e29_59, e29_61, e29_64, e29_65, e29_68, e29_69, e29_70, e29_73, e29_76, e29_77, e29_78, e29_79, e29_80, e29_82, e29_84, e29_85, e29_86, e29_89i, e29_89n, e29_89r, e29_92, e29_95i, e29_95n, e29_95r, e29_98, e29_101, Bool.false_eq_true, Bool.true_eq_false, gfK, pfK, lnK, isC, alK_n, asK_n, List.getElem?_cons_zero, List.getElem?_cons_succ, List.set_cons_zero, List.set_cons_succ, List.length_cons, List.length_nil, ↓reduceIte, if_true, if_false, eq_self, and_true, true_and, and_self, Option.bind_some, Option.bind_none, Option.toList_some, Option.toList_none, List.cons_append, List.nil_append, mset_at, mset_ne, mset_2, mset_mset, Nat.reduceLT, Nat.reduceAdd, le_8, Nat.le_refl, fold_z, Nat.mul_zero]
  | n + 1, d, s, l4, l5, hd, hs => by
    have h8 : ¬ 8 ≤ d := by omega
    have hd' : d < 8 := by omega
    have q0 := (hR.2 j hj).1
    have q2 := (hB.2 j hj).1
    have q3 := hB.1
    have hle := fold_le (f := stp2 lc lt j (fr j) (to j)) (k := 1) (fun i s => stp2_le) 8 (8 * d) s
    have hin := W_pairs_in (b := b) (u := u) (v := v) (τ := τ) hw hC hW hB hR hj hd' 8 0 s rfl (by omega)
    have ih := fun l4 l5 => W_pairs_out hw hC hW hB hR hj n (d + 1) (fold (stp2 lc lt j (fr j) (to j)) (8 * d) 8 s) l4 l5 (by omega) (by omega)
    have e4 : RSA A w s (w + 4) j = nI (fr j) := by rw [RSA_w (by omega), q0]
    have hl := W_ledFrom (b := b) (u := u) (v := v) (τ := τ) (S := bit (fr j)) (A := RSA A w s) hw (CW_up (k := w + 10) (by omega) hC) hd'
    rw [show 8 * (n + 1) = 8 + 8 * n by omega, fold_app, show 8 * d + 8 = 8 * (d + 1) by omega]
    rw [show 8 * d + 0 = 8 * d from rfl, ← lit_0] at hin
    rw [e29_25]
    simp (disch := first | omega | assumption | exact Nat.le_of_ble_eq_true rfl) only [m29, e29_26, e29_28, e29_31, e29_32, e29_33, e29_34, e29_37, e29_38, e29_39, e29_40, e29_41, e29_44i, e29_44n, e29_44r, e29_46, e29_47i, e29_47n, e29_47r, Bool.false_eq_true, Bool.true_eq_false, gfK, pfK, lnK, isC, alK_n, asK_n, List.getElem?_cons_zero, List.getElem?_cons_succ, List.set_cons_zero, List.set_cons_succ, List.length_cons, List.length_nil, ↓reduceIte, if_true, if_false, eq_self, and_true, true_and, and_self, Option.bind_some, Option.bind_none, Option.toList_some, Option.toList_none, List.cons_append, List.nil_append, mset_at, mset_ne, mset_2, mset_mset, Nat.reduceLT, Nat.reduceAdd, le_8, h8, G_W0 hw, G_W4 hw, e4, bit_def, hl, hin]
    simp (disch := first | omega | assumption | exact Nat.le_of_ble_eq_true rfl) only [m29, e29_95i, e29_95n, e29_95r, e29_98, Bool.false_eq_true, Bool.true_eq_false, gfK, pfK, lnK, isC, alK_n, asK_n, List.getElem?_cons_zero, List.getElem?_cons_succ, List.set_cons_zero, List.set_cons_succ, List.length_cons, List.length_nil, ↓reduceIte, if_true, if_false, eq_self, and_true, true_and, and_self, Option.bind_some, Option.bind_none, Option.toList_some, Option.toList_none, List.cons_append, List.nil_append, mset_at, mset_ne, mset_2, mset_mset, Nat.reduceLT, Nat.reduceAdd, nI_succ', ih]
theorem W_pairs (hw : w = 8 ∨ w = 19) (hC : CW A w lc lt) (hW : WF lc lt) (hB : BF nb fr to) (hR : BRc A w nb fr to) (hj : j < nb) (hs : s.1 + 64 < 90000) : evM 29 [.ref (w + 10), .ref w, .int (nI j)] (G b u v (RSA A w s) τ) = some (none, G b u v (RSA A w (fold (stp2 lc lt j (fr j) (to j)) 0 64 s)) τ) := by
  have h := W_pairs_out (b := b) (u := u) (v := v) (τ := τ) hw hC hW hB hR hj 8 0 s none none rfl hs
  rw [Nat.mul_zero, ← lit_0] at h
  have q0 := (hR.2 j hj).1
  have q2 := (hB.2 j hj).1
  have q3 := hB.1
  have e4 : RSA A w s (w + 4) j = nI (fr j) := by rw [RSA_w (by omega), q0]
  simp (disch := first | omega | assumption | exact Nat.le_of_ble_eq_true rfl) only [m29, e29_0, e29_1, e29_4, e29_5, e29_7, e29_10, e29_11, e29_14, e29_15, e29_16, e29_19, e29_22, e29_23, e29_24i, e29_24n, e29_24r, Bool.false_eq_true, Bool.true_eq_false, gfK, pfK, lnK, isC, alK_n, asK_n, List.getElem?_cons_zero, List.getElem?_cons_succ, List.set_cons_zero, List.set_cons_succ, List.length_cons, List.length_nil, ↓reduceIte, if_true, if_false, eq_self, and_true, true_and, and_self, Option.bind_some, Option.bind_none, Option.toList_some, Option.toList_none, List.cons_append, List.nil_append, mset_at, mset_ne, mset_2, mset_mset, Nat.reduceLT, Nat.reduceAdd, nI_not_neg, le_10, show ¬ 10 ≤ j from by omega, G_W0 hw, G_W4 hw, e4, R_isState q2, nz1, h]
theorem W_trip_in (hw : w = 8 ∨ w = 19) (hC : CW A w lc lt) (hW : WF lc lt) (hB : BF nb fr to) (hR : BRc A w nb fr to) (hj : j < nb) (hd : d < 8) (he : e < 8) : ∀ (n f : Nat) (s : R4), f + n = 8 → s.1 + n < 90000 → ev 31 69 [some (.ref (w + 10)), some (.ref w), some (.int (nI j)), some (.int (nI d)), some (.int (led lc lt (bit (fr j)) d)), some (.int (nI e)), some (.int (led lc lt (led lc lt (bit (fr j)) d) e)), some (.int (nI f))] [] (G b u v (RSA A w s) τ) = ev 31 121 [some (.ref (w + 10)), some (.ref w), some (.int (nI j)), some (.int (nI d)), some (.int (led lc lt (bit (fr j)) d)), some (.int (nI e)), some (.int (led lc lt (led lc lt (bit (fr j)) d) e)), some (.int (nI 8))] [] (G b u v (RSA A w (fold (stp3 lc lt j (fr j) (to j)) (64 * d + 8 * e + f) n s)) τ)
  | 0, f, s, hf, hs => by
    have : f = 8 := by omega
    subst this
    rw [e31_69]
    simp (disch := first | omega | assumption | exact Nat.le_of_ble_eq_true rfl) only [m31, e31_71, e31_73, Bool.false_eq_true, Bool.true_eq_false, gfK, pfK, lnK, isC, alK_n, asK_n, List.getElem?_cons_zero, List.getElem?_cons_succ, List.set_cons_zero, List.set_cons_succ, List.length_cons, List.length_nil, ↓reduceIte, if_true, if_false, eq_self, and_true, true_and, and_self, Option.bind_some, Option.bind_none, Option.toList_some, Option.toList_none, List.cons_append, List.nil_append, mset_at, mset_ne, mset_2, mset_mset, Nat.reduceLT, Nat.reduceAdd, le_8, Nat.le_refl, fold_z]
  | n + 1, f, s, hf, hs => by
    have h8 : ¬ 8 ≤ f := by omega
    have hf' : f < 8 := by omega
    have hle := stp3_le (lc := lc) (lt := lt) (b := j) (fr := fr j) (to := to j) (i := 64 * d + 8 * e + f) (s := s)
    have ih := W_trip_in hw hC hW hB hR hj hd he n (f + 1) (stp3 lc lt j (fr j) (to j) (64 * d + 8 * e + f) s) (by omega) (by omega)
    have q1 := (hR.2 j hj).2
    have q2 := (hB.2 j hj).2
    have q3 := hB.1
    have hl := fun S => W_ledFrom (b := b) (u := u) (v := v) (τ := τ) (S := S) (A := RSA A w s) hw (CW_up (k := w + 10) (by omega) hC) hf'
    have e5 : RSA A w s (w + 5) j = nI (to j) := by rw [RSA_w (by omega), q1]
    have hn := fun r => W_note (b := b) (u := u) (v := v) (τ := τ) (A := A) (s := s) (w := w) (j := j) (x := 3) (row := r) hw (by omega)
    rw [show fold (stp3 lc lt j (fr j) (to j)) (64 * d + 8 * e + f) (n + 1) s = fold (stp3 lc lt j (fr j) (to j)) (64 * d + 8 * e + (f + 1)) n (stp3 lc lt j (fr j) (to j) (64 * d + 8 * e + f) s) from rfl, ← ih]
    rw [e31_69]
    unfold stp3
    rw [show (64 * d + 8 * e + f) / 64 = d by omega, show (64 * d + 8 * e + f) / 8 % 8 = e by omega, show (64 * d + 8 * e + f) % 8 = f by omega]
    by_cases h : bi (led lc lt (led lc lt (led lc lt (bit (fr j)) d) e) f) (to j) = true
    · rw [if_pos h]
      simp (disch := first | omega | assumption | exact Nat.le_of_ble_eq_true rfl) only [m31, e31_71, e31_73, e31_76, e31_77, e31_79, e31_81, e31_84, e31_85, e31_88, e31_89, e31_90, e31_93, e31_96, e31_97, e31_98, e31_99, e31_100, e31_102, e31_104, e31_105, e31_106, e31_108, e31_110, e31_111, e31_112, e31_115i, e31_115n, e31_115r, e31_118, Bool.false_eq_true, Bool.true_eq_false, gfK, pfK, lnK, isC, alK_n, asK_n, List.getElem?_cons_zero, List.getElem?_cons_succ, List.set_cons_zero, List.set_cons_succ, List.length_cons, List.length_nil, ↓reduceIte, if_true, if_false, eq_self, and_true, true_and, and_self, Option.bind_some, Option.bind_none, Option.toList_some, Option.toList_none, List.cons_append, List.nil_append, mset_at, mset_ne, mset_2, mset_mset, Nat.reduceLT, Nat.reduceAdd, le_8, h8, G_W0 hw, G_W5 hw, hl, e5, R_bit, h, nz1, lm_8, show (64 : Int32) * nI f = nI (64 * f) from nI_mulN 64 f, nI_addN, G_RSA hw, hn, nI_succ']
    · rw [if_neg h]
      simp (disch := first | omega | assumption | exact Nat.le_of_ble_eq_true rfl) only [m31, e31_71, e31_73, e31_76, e31_77, e31_79, e31_81, e31_84, e31_85, e31_88, e31_89, e31_90, e31_93, e31_96, e31_97, e31_98, e31_99, e31_100, e31_102, e31_104, e31_105, e31_106, e31_108, e31_110, e31_111, e31_112, e31_115i, e31_115n, e31_115r, e31_118, Bool.false_eq_true, Bool.true_eq_false, gfK, pfK, lnK, isC, alK_n, asK_n, List.getElem?_cons_zero, List.getElem?_cons_succ, List.set_cons_zero, List.set_cons_succ, List.length_cons, List.length_nil, ↓reduceIte, if_true, if_false, eq_self, and_true, true_and, and_self, Option.bind_some, Option.bind_none, Option.toList_some, Option.toList_none, List.cons_append, List.nil_append, mset_at, mset_ne, mset_2, mset_mset, Nat.reduceLT, Nat.reduceAdd, le_8, h8, G_W0 hw, G_W5 hw, hl, e5, R_bit, h, nI_succ']
theorem W_trip_mid (hw : w = 8 ∨ w = 19) (hC : CW A w lc lt) (hW : WF lc lt) (hB : BF nb fr to) (hR : BRc A w nb fr to) (hj : j < nb) (hd : d < 8) : ∀ (n e : Nat) (s : R4) (l6 l7 : Option Value), e + n = 8 → s.1 + 8 * n < 90000 → ∃ l6' l7', ev 31 49 [some (.ref (w + 10)), some (.ref w), some (.int (nI j)), some (.int (nI d)), some (.int (led lc lt (bit (fr j)) d)), some (.int (nI e)), l6, l7] [] (G b u v (RSA A w s) τ) = ev 31 127 [some (.ref (w + 10)), some (.ref w), some (.int (nI j)), some (.int (nI d)), some (.int (led lc lt (bit (fr j)) d)), some (.int (nI 8)), l6', l7'] [] (G b u v (RSA A w (fold (stp3 lc lt j (fr j) (to j)) (64 * d + 8 * e) (8 * n) s)) τ)
  | 0, e, s, l6, l7, he, hs => by
    have : e = 8 := by omega
    subst this
    refine ⟨l6, l7, ?_⟩
    rw [e31_49]
    simp (disch := first | omega | assumption | exact Nat.le_of_ble_eq_true rfl) only [m31, e31_51, e31_53, Bool.false_eq_true, Bool.true_eq_false, gfK, pfK, lnK, isC, alK_n, asK_n, List.getElem?_cons_zero, List.getElem?_cons_succ, List.set_cons_zero, List.set_cons_succ, List.length_cons, List.length_nil, ↓reduceIte, if_true, if_false, eq_self, and_true, true_and, and_self, Option.bind_some, Option.bind_none, Option.toList_some, Option.toList_none, List.cons_append, List.nil_append, mset_at, mset_ne, mset_2, mset_mset, Nat.reduceLT, Nat.reduceAdd, le_8, Nat.le_refl, fold_z, Nat.mul_zero]
  | n + 1, e, s, l6, l7, he, hs => by
    have h8 : ¬ 8 ≤ e := by omega
    have he' : e < 8 := by omega
    have hle := fold_le (f := stp3 lc lt j (fr j) (to j)) (k := 1) (fun i s => stp3_le) 8 (64 * d + 8 * e) s
    have hin := W_trip_in (b := b) (u := u) (v := v) (τ := τ) hw hC hW hB hR hj hd he' 8 0 s rfl (by omega)
    obtain ⟨l6', l7', ih⟩ := W_trip_mid hw hC hW hB hR hj hd n (e + 1) (fold (stp3 lc lt j (fr j) (to j)) (64 * d + 8 * e) 8 s) (some (.int (led lc lt (led lc lt (bit (fr j)) d) e))) (some (.int (nI 8))) (by omega) (by omega)
    refine ⟨l6', l7', ?_⟩
    have hl := W_ledFrom (b := b) (u := u) (v := v) (τ := τ) (S := led lc lt (bit (fr j)) d) (A := RSA A w s) hw (CW_up (k := w + 10) (by omega) hC) he'
    rw [show 8 * (n + 1) = 8 + 8 * n by omega, fold_app, show 64 * d + 8 * e + 8 = 64 * d + 8 * (e + 1) by omega, ← ih]
    rw [show 64 * d + 8 * e + 0 = 64 * d + 8 * e from rfl, ← lit_0] at hin
    rw [e31_49]
    simp (disch := first | omega | assumption | exact Nat.le_of_ble_eq_true rfl) only [m31, e31_51, e31_53, e31_56, e31_57, e31_59, e31_61, e31_64i, e31_64n, e31_64r, e31_66, e31_67i, e31_67n, e31_67r, Bool.false_eq_true, Bool.true_eq_false, gfK, pfK, lnK, isC, alK_n, asK_n, List.getElem?_cons_zero, List.getElem?_cons_succ, List.set_cons_zero, List.set_cons_succ, List.length_cons, List.length_nil, ↓reduceIte, if_true, if_false, eq_self, and_true, true_and, and_self, Option.bind_some, Option.bind_none, Option.toList_some, Option.toList_none, List.cons_append, List.nil_append, mset_at, mset_ne, mset_2, mset_mset, Nat.reduceLT, Nat.reduceAdd, le_8, h8, G_W0 hw, hl, hin]
    simp (disch := first | omega | assumption | exact Nat.le_of_ble_eq_true rfl) only [m31, e31_121i, e31_121n, e31_121r, e31_124, Bool.false_eq_true, Bool.true_eq_false, gfK, pfK, lnK, isC, alK_n, asK_n, List.getElem?_cons_zero, List.getElem?_cons_succ, List.set_cons_zero, List.set_cons_succ, List.length_cons, List.length_nil, ↓reduceIte, if_true, if_false, eq_self, and_true, true_and, and_self, Option.bind_some, Option.bind_none, Option.toList_some, Option.toList_none, List.cons_append, List.nil_append, mset_at, mset_ne, mset_2, mset_mset, Nat.reduceLT, Nat.reduceAdd, nI_succ']
theorem W_trip_out (hw : w = 8 ∨ w = 19) (hC : CW A w lc lt) (hW : WF lc lt) (hB : BF nb fr to) (hR : BRc A w nb fr to) (hj : j < nb) : ∀ (n d : Nat) (s : R4) (l4 l5 l6 l7 : Option Value), d + n = 8 → s.1 + 64 * n < 90000 → ev 31 25 [some (.ref (w + 10)), some (.ref w), some (.int (nI j)), some (.int (nI d)), l4, l5, l6, l7] [] (G b u v (RSA A w s) τ) = some (none, G b u v (RSA A w (fold (stp3 lc lt j (fr j) (to j)) (64 * d) (64 * n) s)) τ)
  | 0, d, s, l4, l5, l6, l7, hd, hs => by
    have : d = 8 := by omega
    subst this
    rw [e31_25]
    simp (disch := first | omega | assumption | exact Nat.le_of_ble_eq_true rfl) only [m31, e31_26, e31_28, e31_31, e31_32, e31_33, e31_34, e31_37, e31_38, e31_39, e31_40, e31_41, e31_44i, e31_44n, e31_44r, e31_46, e31_47i, e31_47n, e31_47r, e31_51, e31_53, e31_56, e31_57, e31_59, e31_61, e31_64i, e31_64n, e31_64r, e31_66, e31_67i, e31_67n, e31_67r, e31_71, e31_73, e31_76, e31_77, e31_79, e31_81, e31_84, e31_85, e31_88, e31_89, e31_90, e31_93, e31_96, e31_97, e31_98, e31_99, e31_100, e31_102, e31_104, e31_105, e31_106, e31_108, e31_110, e31_111, e31_112, e31_115i, e31_115n, e31_115r, e31_118, e31_121i, e31_121n, e31_121r, e31_124, e31_127i, e31_127n, e31_127r, e31_130, e31_133, Bool.false_eq_true, Bool.true_eq_false, gfK, pfK, lnK, isC, alK_n, asK_n, List.getElem?_cons_zero, List.getElem?_cons_succ, List.set_cons_zero, List.set_cons_succ, List.length_cons, List.length_nil, ↓reduceIte, if_true, if_false, eq_self, and_true, true_and, and_self, Option.bind_some, Option.bind_none, Option.toList_some, Option.toList_none, List.cons_append, List.nil_append, mset_at, mset_ne, mset_2, mset_mset, Nat.reduceLT, Nat.reduceAdd, le_8, Nat.le_refl, fold_z, Nat.mul_zero]
  | n + 1, d, s, l4, l5, l6, l7, hd, hs => by
    have h8 : ¬ 8 ≤ d := by omega
    have hd' : d < 8 := by omega
    have q0 := (hR.2 j hj).1
    have q2 := (hB.2 j hj).1
    have q3 := hB.1
    have hle := fold_le (f := stp3 lc lt j (fr j) (to j)) (k := 1) (fun i s => stp3_le) 64 (64 * d) s
    obtain ⟨l6', l7', hin⟩ := W_trip_mid (b := b) (u := u) (v := v) (τ := τ) hw hC hW hB hR hj hd' 8 0 s l6 l7 rfl (by omega)
    have ih := fun l4 l5 => W_trip_out hw hC hW hB hR hj n (d + 1) (fold (stp3 lc lt j (fr j) (to j)) (64 * d) 64 s) l4 l5 l6' l7' (by omega) (by omega)
    have e4 : RSA A w s (w + 4) j = nI (fr j) := by rw [RSA_w (by omega), q0]
    have hl := W_ledFrom (b := b) (u := u) (v := v) (τ := τ) (S := bit (fr j)) (A := RSA A w s) hw (CW_up (k := w + 10) (by omega) hC) hd'
    rw [show 64 * (n + 1) = 64 + 64 * n by omega, fold_app, show 64 * d + 64 = 64 * (d + 1) by omega]
    rw [show 64 * d + 8 * 0 = 64 * d from rfl, show 8 * 8 = 64 from rfl, ← lit_0] at hin
    rw [e31_25]
    simp (disch := first | omega | assumption | exact Nat.le_of_ble_eq_true rfl) only [m31, e31_26, e31_28, e31_31, e31_32, e31_33, e31_34, e31_37, e31_38, e31_39, e31_40, e31_41, e31_44i, e31_44n, e31_44r, e31_46, e31_47i, e31_47n, e31_47r, Bool.false_eq_true, Bool.true_eq_false, gfK, pfK, lnK, isC, alK_n, asK_n, List.getElem?_cons_zero, List.getElem?_cons_succ, List.set_cons_zero, List.set_cons_succ, List.length_cons, List.length_nil, ↓reduceIte, if_true, if_false, eq_self, and_true, true_and, and_self, Option.bind_some, Option.bind_none, Option.toList_some, Option.toList_none, List.cons_append, List.nil_append, mset_at, mset_ne, mset_2, mset_mset, Nat.reduceLT, Nat.reduceAdd, le_8, h8, G_W0 hw, G_W4 hw, e4, bit_def, hl, hin]
    simp (disch := first | omega | assumption | exact Nat.le_of_ble_eq_true rfl) only [m31, e31_127i, e31_127n, e31_127r, e31_130, Bool.false_eq_true, Bool.true_eq_false, gfK, pfK, lnK, isC, alK_n, asK_n, List.getElem?_cons_zero, List.getElem?_cons_succ, List.set_cons_zero, List.set_cons_succ, List.length_cons, List.length_nil, ↓reduceIte, if_true, if_false, eq_self, and_true, true_and, and_self, Option.bind_some, Option.bind_none, Option.toList_some, Option.toList_none, List.cons_append, List.nil_append, mset_at, mset_ne, mset_2, mset_mset, Nat.reduceLT, Nat.reduceAdd, nI_succ', ih]
theorem W_trip (hw : w = 8 ∨ w = 19) (hC : CW A w lc lt) (hW : WF lc lt) (hB : BF nb fr to) (hR : BRc A w nb fr to) (hj : j < nb) (hs : s.1 + 512 < 90000) : evM 31 [.ref (w + 10), .ref w, .int (nI j)] (G b u v (RSA A w s) τ) = some (none, G b u v (RSA A w (fold (stp3 lc lt j (fr j) (to j)) 0 512 s)) τ) := by
  have h := W_trip_out (b := b) (u := u) (v := v) (τ := τ) hw hC hW hB hR hj 8 0 s none none none none rfl hs
  rw [Nat.mul_zero, ← lit_0] at h
  have q0 := (hR.2 j hj).1
  have q2 := (hB.2 j hj).1
  have q3 := hB.1
  have e4 : RSA A w s (w + 4) j = nI (fr j) := by rw [RSA_w (by omega), q0]
  simp (disch := first | omega | assumption | exact Nat.le_of_ble_eq_true rfl) only [m31, e31_0, e31_1, e31_4, e31_5, e31_7, e31_10, e31_11, e31_14, e31_15, e31_16, e31_19, e31_22, e31_23, e31_24i, e31_24n, e31_24r, Bool.false_eq_true, Bool.true_eq_false, gfK, pfK, lnK, isC, alK_n, asK_n, List.getElem?_cons_zero, List.getElem?_cons_succ, List.set_cons_zero, List.set_cons_succ, List.length_cons, List.length_nil, ↓reduceIte, if_true, if_false, eq_self, and_true, true_and, and_self, Option.bind_some, Option.bind_none, Option.toList_some, Option.toList_none, List.cons_append, List.nil_append, mset_at, mset_ne, mset_2, mset_mset, Nat.reduceLT, Nat.reduceAdd, nI_not_neg, le_10, show ¬ 10 ≤ j from by omega, G_W0 hw, G_W4 hw, e4, R_isState q2, nz1, h]
theorem W_find_loop (hw : w = 8 ∨ w = 19) (hC : CW A w lc lt) (hW : WF lc lt) (hB : BF nb fr to) (hR : BRc A w nb fr to) : ∀ (n j : Nat) (s : R4), j + n = nb → s.1 + 576 * n < 80000 → ev 28 25 [some (.ref (w + 10)), some (.ref w), some (.int (nI j))] [] (G b u v (RSA A w s) τ) = some (none, G b u v (RSA A w (fold (barF lc lt fr to) j n s)) τ)
  | 0, j, s, hj, hs => by
    have : j = nb := by omega
    subst this
    have q3 := hB.1
    have e1 : RSA A w s w 1 = nI j := by rw [RSA_w (by omega), hR.1]
    rw [e28_25]
    simp (disch := first | omega | assumption | exact Nat.le_of_ble_eq_true rfl) only [m28, e28_26, e28_27, e28_30, e28_33, e28_34, e28_36, e28_39, e28_40, e28_41, e28_42, e28_45, e28_46, e28_47, e28_48, e28_51i, e28_51n, e28_51r, e28_54, e28_57, Bool.false_eq_true, Bool.true_eq_false, gfK, pfK, lnK, isC, alK_n, asK_n, List.getElem?_cons_zero, List.getElem?_cons_succ, List.set_cons_zero, List.set_cons_succ, List.length_cons, List.length_nil, ↓reduceIte, if_true, if_false, eq_self, and_true, true_and, and_self, Option.bind_some, Option.bind_none, Option.toList_some, Option.toList_none, List.cons_append, List.nil_append, mset_at, mset_ne, mset_2, mset_mset, Nat.reduceLT, Nat.reduceAdd, G_W0 hw, e1, nI_leI, Nat.le_refl, fold_z]
  | n + 1, j, s, hj, hs => by
    have hj' : j < nb := by omega
    have q3 := hB.1
    have h9 : ¬ nb ≤ j := by omega
    have h10 : ¬ 10 ≤ j := by omega
    have hk : ∀ a : Nat, a ≤ s.1 + 64 * 1 → a + 512 < 90000 := fun a ha => by
      have h1 : s.1 < 80000 := by omega
      clear hs
      omega
    have hk2 : ∀ a : Nat, a ≤ s.1 + 576 → a + 576 * n < 80000 := fun a ha => by omega
    have hle := barF_le (lc := lc) (lt := lt) (fr := fr) (to := to) (b := j) (s := s)
    have hle2 := fold_le (f := stp2 lc lt j (fr j) (to j)) (k := 1) (fun i s => stp2_le) 64 0 s
    have ih := W_find_loop hw hC hW hB hR n (j + 1) (barF lc lt fr to j s) (by omega) (hk2 _ hle)
    have e1 : RSA A w s w 1 = nI nb := by rw [RSA_w (by omega), hR.1]
    have h1 := W_pairs (b := b) (u := u) (v := v) (τ := τ) (s := s) hw hC hW hB hR hj' (by omega)
    have h2 := W_trip (b := b) (u := u) (v := v) (τ := τ) (s := fold (stp2 lc lt j (fr j) (to j)) 0 64 s) hw hC hW hB hR hj' (hk _ hle2)
    rw [show fold (stp3 lc lt j (fr j) (to j)) 0 512 (fold (stp2 lc lt j (fr j) (to j)) 0 64 s) = barF lc lt fr to j s from barF_def.symm] at h2
    rw [fold_n, e28_25]
    simp (disch := first | omega | assumption | exact Nat.le_of_ble_eq_true rfl) only [m28, e28_26, e28_27, e28_30, e28_33, e28_34, e28_36, e28_39, e28_40, e28_41, e28_42, e28_45, e28_46, e28_47, e28_48, e28_51i, e28_51n, e28_51r, e28_54, Bool.false_eq_true, Bool.true_eq_false, gfK, pfK, lnK, isC, alK_n, asK_n, List.getElem?_cons_zero, List.getElem?_cons_succ, List.set_cons_zero, List.set_cons_succ, List.length_cons, List.length_nil, ↓reduceIte, if_true, if_false, eq_self, and_true, true_and, and_self, Option.bind_some, Option.bind_none, Option.toList_some, Option.toList_none, List.cons_append, List.nil_append, mset_at, mset_ne, mset_2, mset_mset, Nat.reduceLT, Nat.reduceAdd, G_W0 hw, e1, nI_leI, h9, le_10, h10, G_RSA hw, h1, h2, nI_succ', ih]
theorem W_find (hw : w = 8 ∨ w = 19) (hC : CW A w lc lt) (hW : WF lc lt) (hB : BF nb fr to) (hR : BRc A w nb fr to) : evM 28 [.ref (w + 10), .ref w] (G b u v A τ) = some (none, G b u v (RSA A w (rnd lc lt nb fr to)) τ) := by
  have q3 := hB.1
  have h := W_find_loop (b := b) (u := u) (v := v) (τ := τ) hw hC hW hB hR nb 0 (0, -9, -9, -9) (by omega) (by show 0 + 576 * nb < 80000; omega)
  rw [← lit_0] at h
  have hS : ∀ x y z w0 : Int32, mset (G b u v A τ) (w + 10) (.inr (2, [.int x, .int y, .int z, .int w0])) = G b u v (up A (w + 10) (fL [x, y, z, w0])) τ := fun x y z w0 => S_W10 hw
  have hS2 : ∀ (f : Nat → Int32) (x y z w0 : Int32), mset (G b u v (up A (w + 10) f) τ) (w + 10) (.inr (2, [.int x, .int y, .int z, .int w0])) = G b u v (up A (w + 10) (fL [x, y, z, w0])) τ := fun f x y z w0 => (S_W10 hw).trans (congrArg (fun X => G b u v X τ) up_up)
  have hG : ∀ (x y z w0 : Int32), (G b u v (up A (w + 10) (fL [x, y, z, w0])) τ).1 (w + 10) = some (.inr (2, [.int x, .int y, .int z, .int w0])) := fun x y z w0 => (G_W10 hw).trans (by rw [up_at]; rfl)
  have e : up A (w + 10) (fL [0, -9, -9, -9]) = RSA A w (0, -9, -9, -9) := rfl
  simp (disch := first | omega | assumption | exact Nat.le_of_ble_eq_true rfl) only [m28, e28_0, e28_1, e28_2, Bool.false_eq_true, Bool.true_eq_false, gfK, pfK, lnK, isC, alK_n, asK_n, List.getElem?_cons_zero, List.getElem?_cons_succ, List.set_cons_zero, List.set_cons_succ, List.length_cons, List.length_nil, ↓reduceIte, if_true, if_false, eq_self, and_true, true_and, and_self, Option.bind_some, Option.bind_none, Option.toList_some, Option.toList_none, List.cons_append, List.nil_append, mset_at, mset_ne, mset_2, mset_mset, Nat.reduceLT, Nat.reduceAdd, G_W10 hw, hS]
  simp (disch := first | omega | assumption | exact Nat.le_of_ble_eq_true rfl) only [m28, e28_5, e28_6, e28_8, e28_11, e28_12, e28_14, e28_17, e28_18, e28_20, e28_23, e28_24i, e28_24n, e28_24r, Bool.false_eq_true, Bool.true_eq_false, gfK, pfK, lnK, isC, alK_n, asK_n, List.getElem?_cons_zero, List.getElem?_cons_succ, List.set_cons_zero, List.set_cons_succ, List.length_cons, List.length_nil, ↓reduceIte, if_true, if_false, eq_self, and_true, true_and, and_self, Option.bind_some, Option.bind_none, Option.toList_some, Option.toList_none, List.cons_append, List.nil_append, mset_at, mset_ne, mset_2, mset_mset, Nat.reduceLT, Nat.reduceAdd, hG, hS2, e, h]
  rfl
end ROUNDS
