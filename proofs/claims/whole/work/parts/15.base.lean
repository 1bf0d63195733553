/-! PLAIN FACTS for the walks: cells set and read, folds, numbers. -/
theorem lit_0 : (0 : Int32) = nI 0 := rfl
theorem lit_1 : (1 : Int32) = nI 1 := rfl
theorem lit_2 : (2 : Int32) = nI 2 := rfl
theorem lit_3 : (3 : Int32) = nI 3 := rfl
theorem lit_4 : (4 : Int32) = nI 4 := rfl
theorem lit_5 : (5 : Int32) = nI 5 := rfl
theorem lit_6 : (6 : Int32) = nI 6 := rfl
theorem lit_7 : (7 : Int32) = nI 7 := rfl
theorem lit_8 : (8 : Int32) = nI 8 := rfl
theorem lit_9 : (9 : Int32) = nI 9 := rfl
theorem lit_10 : (10 : Int32) = nI 10 := rfl
theorem lit_15 : (15 : Int32) = nI 15 := rfl
theorem lit_16 : (16 : Int32) = nI 16 := rfl
theorem lit_17 : (17 : Int32) = nI 17 := rfl
theorem lit_20 : (20 : Int32) = nI 20 := rfl
theorem lit_21 : (21 : Int32) = nI 21 := rfl
theorem lit_29 : (29 : Int32) = nI 29 := rfl
theorem lit_30 : (30 : Int32) = nI 30 := rfl
theorem lit_31 : (31 : Int32) = nI 31 := rfl
theorem lit_32 : (32 : Int32) = nI 32 := rfl
theorem lit_40 : (40 : Int32) = nI 40 := rfl
theorem lit_45 : (45 : Int32) = nI 45 := rfl
theorem lit_48 : (48 : Int32) = nI 48 := rfl
theorem lit_50 : (50 : Int32) = nI 50 := rfl
theorem lit_57 : (57 : Int32) = nI 57 := rfl
theorem lit_59 : (59 : Int32) = nI 59 := rfl
theorem lit_60 : (60 : Int32) = nI 60 := rfl
theorem lit_62 : (62 : Int32) = nI 62 := rfl
theorem lit_63 : (63 : Int32) = nI 63 := rfl
theorem lit_64 : (64 : Int32) = nI 64 := rfl
theorem lit_97 : (97 : Int32) = nI 97 := rfl
theorem lit_98 : (98 : Int32) = nI 98 := rfl
theorem lit_99 : (99 : Int32) = nI 99 := rfl
theorem lit_100 : (100 : Int32) = nI 100 := rfl
theorem lit_101 : (101 : Int32) = nI 101 := rfl
theorem lit_103 : (103 : Int32) = nI 103 := rfl
theorem lit_104 : (104 : Int32) = nI 104 := rfl
theorem lit_105 : (105 : Int32) = nI 105 := rfl
theorem lit_108 : (108 : Int32) = nI 108 := rfl
theorem lit_110 : (110 : Int32) = nI 110 := rfl
theorem lit_111 : (111 : Int32) = nI 111 := rfl
theorem lit_114 : (114 : Int32) = nI 114 := rfl
theorem lit_115 : (115 : Int32) = nI 115 := rfl
theorem lit_116 : (116 : Int32) = nI 116 := rfl
theorem lit_118 : (118 : Int32) = nI 118 := rfl
theorem lit_122 : (122 : Int32) = nI 122 := rfl
theorem lit_128 : (128 : Int32) = nI 128 := rfl
theorem lit_205 : (205 : Int32) = nI 205 := rfl
theorem lit_255 : (255 : Int32) = nI 255 := rfl
theorem lit_512 : (512 : Int32) = nI 512 := rfl
theorem lit_600 : (600 : Int32) = nI 600 := rfl
theorem lit_601 : (601 : Int32) = nI 601 := rfl
theorem lit_640 : (640 : Int32) = nI 640 := rfl
theorem lit_805 : (805 : Int32) = nI 805 := rfl
theorem lit_1000 : (1000 : Int32) = nI 1000 := rfl
theorem lit_1280 : (1280 : Int32) = nI 1280 := rfl
theorem lit_1610 : (1610 : Int32) = nI 1610 := rfl
theorem lit_65535 : (65535 : Int32) = nI 65535 := rfl
theorem mset_at {σ : mS} {t : Nat} {e : mE} : (mset σ t e).1 t = some e := if_pos rfl
theorem mset_ne {σ : mS} {t k : Nat} {e : mE} (h : k ≠ t) : (mset σ t e).1 k = σ.1 k := if_neg h
theorem mset_2 {σ : mS} {t : Nat} {e : mE} : (mset σ t e).2 = σ.2 := rfl
theorem mset_mset {σ : mS} {t : Nat} {e e' : mE} : mset (mset σ t e) t e' = mset σ t e' := by
  refine Prod.ext (funext fun j => ?_) rfl
  show hu (hu σ.1 t e) t e' j = hu σ.1 t e' j
  unfold hu
  by_cases h : j = t
  · rw [if_pos h, if_pos h]
  · rw [if_neg h, if_neg h, if_neg h]
theorem mset_same {σ : mS} {t : Nat} {e : mE} (h : σ.1 t = some e) : mset σ t e = σ := by
  refine Prod.ext (funext fun j => ?_) rfl
  show hu σ.1 t e j = σ.1 j
  unfold hu
  by_cases hj : j = t
  · rw [if_pos hj, hj, h]
  · rw [if_neg hj]
theorem mset_swap {σ : mS} {t u : Nat} {e e' : mE} (h : t ≠ u) : mset (mset σ t e) u e' = mset (mset σ u e') t e := by
  refine Prod.ext (funext fun j => ?_) rfl
  show hu (hu σ.1 t e) u e' j = hu (hu σ.1 u e') t e j
  unfold hu
  by_cases h1 : j = u
  · rw [if_pos h1, if_neg (by omega), if_pos h1]
  · rw [if_neg h1]
    by_cases h2 : j = t
    · rw [if_pos h2, if_pos h2]
    · rw [if_neg h2, if_neg h2, if_neg h1]
theorem alK_n {α : Type} {t n i : Nat} {f : Nat → Int32} {K : Int32 → Option α} (h : i < n) (hn : n < 2147483648) : alK (some (.inl (t, n, f))) t (nI i) K = K (f i) := by
  unfold alK
  have h1 : vp_in (nI i) n := vp_in_nI h hn
  have h2 : (nI i).toNatClampNeg = i := nI_clamp (by omega)
  simp only
  rw [if_pos ⟨trivial, h1⟩, h2]
theorem asK_n {α : Type} {t n i : Nat} {f : Nat → Int32} {v : Int32} {K : mE → Option α} (h : i < n) (hn : n < 2147483648) : asK (some (.inl (t, n, f))) t (nI i) v K = K (.inl (t, n, upd f i v)) := by
  unfold asK
  have h1 : vp_in (nI i) n := vp_in_nI h hn
  have h2 : (nI i).toNatClampNeg = i := nI_clamp (by omega)
  simp only
  rw [if_pos ⟨trivial, h1⟩, h2]
theorem upd_at {f : Nat → Int32} {k : Nat} {x : Int32} : upd f k x k = x := if_pos rfl
theorem upd_ne {f : Nat → Int32} {k j : Nat} {x : Int32} (h : j ≠ k) : upd f k x j = f j := if_neg h
theorem nI_ne9 {n : Nat} (h : n < 2147483648) : (nI n = -9) = False := by
  refine eq_false fun e => ?_
  have h1 := congrArg Int32.toInt e
  rw [nI_toInt h] at h1
  have h2 : (-9 : Int32).toInt = -9 := by decide
  omega
theorem nI_not_neg {n : Nat} (h : n < 2147483648) : (nI n < 0) = False := eq_false (nI_pos h)
theorem nI_0_le {n : Nat} (h : n < 2147483648) : ((0 : Int32) ≤ nI n) = True := eq_true (nI_pos' h)
theorem nI_succ' (n : Nat) : nI n + 1 = nI (n + 1) := nI_1 n
/-- a fold over numbers from i on, n of them -/
def fold {α : Type} (f : Nat → α → α) : Nat → Nat → α → α
  | _, 0, s => s
  | i, n + 1, s => fold f (i + 1) n (f i s)
theorem fold_succ {α : Type} (f : Nat → α → α) : ∀ (n i : Nat) (s : α), fold f i (n + 1) s = f (i + n) (fold f i n s)
  | 0, i, s => rfl
  | n + 1, i, s => by
    show fold f (i + 1) (n + 1) (f i s) = _
    rw [fold_succ f n (i + 1) (f i s), show i + 1 + n = i + (n + 1) by omega]
    rfl
theorem ev_fold {α β : Type} (E : Nat → α → β) (f : Nat → α → α) (P : Nat → α → Prop) (N : Nat) (h : ∀ i s, i < N → P i s → E i s = E (i + 1) (f i s) ∧ P (i + 1) (f i s)) : ∀ n i s, i + n = N → P i s → E i s = E N (fold f i n s) ∧ P N (fold f i n s)
  | 0, i, s, hi, hp => by
    have : i = N := by omega
    subst this
    exact ⟨rfl, hp⟩
  | n + 1, i, s, hi, hp => by
    obtain ⟨h1, h2⟩ := h i s (by omega) hp
    rw [h1]
    exact ev_fold E f P N h n (i + 1) (f i s) (by omega) h2
theorem fold_inv {α : Type} (f : Nat → α → α) (P : Nat → α → Prop) (N : Nat) (h : ∀ i s, i < N → P i s → P (i + 1) (f i s)) : ∀ n i s, i + n = N → P i s → P N (fold f i n s)
  | 0, i, s, hi, hp => by
    have : i = N := by omega
    subst this
    exact hp
  | n + 1, i, s, hi, hp => fold_inv f P N h n (i + 1) (f i s) (by omega) (h i s (by omega) hp)
