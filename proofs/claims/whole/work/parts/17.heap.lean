/-! THE HEAP behind the constructors (printed by gen/mk_heap.py): cells out of a table of numbers, read and set. -/
def fL (l : List Int32) : Nat → Int32 := fun j => l.getD j 0
theorem fL_0 {x : Int32} {l : List Int32} : fL (x :: l) 0 = x := rfl
theorem fL_s {x : Int32} {l : List Int32} {n : Nat} : fL (x :: l) (n + 1) = fL l n := rfl
def up (A : Nat → Nat → Int32) (k : Nat) (f : Nat → Int32) : Nat → Nat → Int32 := fun j => if j = k then f else A j
theorem up_at {A : Nat → Nat → Int32} {k : Nat} {f : Nat → Int32} : up A k f k = f := if_pos rfl
theorem up_ne {A : Nat → Nat → Int32} {k j : Nat} {f : Nat → Int32} (h : j ≠ k) : up A k f j = A j := if_neg h
theorem up_up {A : Nat → Nat → Int32} {k : Nat} {f g : Nat → Int32} : up (up A k f) k g = up A k g := by
  funext j
  unfold up
  by_cases h : j = k
  · rw [if_pos h, if_pos h]
  · rw [if_neg h, if_neg h, if_neg h]
theorem up_swap {A : Nat → Nat → Int32} {k l : Nat} {f g : Nat → Int32} (h : k ≠ l) : up (up A k f) l g = up (up A l g) k f := by
  funext j
  unfold up
  by_cases h1 : j = l
  · rw [if_pos h1, if_neg (by omega), if_pos h1]
  · rw [if_neg h1]
    by_cases h2 : j = k
    · rw [if_pos h2, if_pos h2]
    · rw [if_neg h2, if_neg h2, if_neg h1]
theorem up_same {A : Nat → Nat → Int32} {k : Nat} : up A k (A k) = A := by
  funext j
  unfold up
  by_cases h : j = k
  · rw [if_pos h, h]
  · rw [if_neg h]
def cells (b : Nat) (u v : Int64) (A : Nat → Nat → Int32) : List mE := [
  .inr (7, [.ref 1, .ref 3, .ref b, .ref (27 - b), .ref 30, .ref 39, .ref 48, .ref 57, .ref 58, .ref 59, .long u]),
  .inr (4, [.ref 2, .int (A 1 0)]),
  .inl (0, 600, (A 2)),
  .inr (1, [.ref 4]),
  .inr (5, [.ref 5, .ref 6, .ref 7, .int (A 4 0), .int (A 4 1)]),
  .inl (0, 601, (A 5)),
  .inl (0, 601, (A 6)),
  .inl (0, 601, (A 7)),
  .inr (6, [.ref 9, .ref 10, .ref 11, .ref 12, .ref 13, .int (A 8 0), .int (A 8 1), .int (A 8 2), .int (A 8 3), .int (A 8 4), .int (A 8 5), .int (A 8 6), .ref 14, .ref 15, .ref 16, .ref 17, .ref 18]),
  .inl (0, 128, (A 9)),
  .inl (0, 128, (A 10)),
  .inl (0, 512, (A 11)),
  .inl (0, 10, (A 12)),
  .inl (0, 10, (A 13)),
  .inl (0, 16, (A 14)),
  .inl (0, 16, (A 15)),
  .inl (0, 16, (A 16)),
  .inl (0, 16, (A 17)),
  .inr (2, [.int (A 18 0), .int (A 18 1), .int (A 18 2), .int (A 18 3)]),
  .inr (6, [.ref 20, .ref 21, .ref 22, .ref 23, .ref 24, .int (A 19 0), .int (A 19 1), .int (A 19 2), .int (A 19 3), .int (A 19 4), .int (A 19 5), .int (A 19 6), .ref 25, .ref 26, .ref 27, .ref 28, .ref 29]),
  .inl (0, 128, (A 20)),
  .inl (0, 128, (A 21)),
  .inl (0, 512, (A 22)),
  .inl (0, 10, (A 23)),
  .inl (0, 10, (A 24)),
  .inl (0, 16, (A 25)),
  .inl (0, 16, (A 26)),
  .inl (0, 16, (A 27)),
  .inl (0, 16, (A 28)),
  .inr (2, [.int (A 29 0), .int (A 29 1), .int (A 29 2), .int (A 29 3)]),
  .inr (0, [.ref 31, .ref 33, .ref 35, .ref 37, .int (A 30 0), .int (A 30 1)]),
  .inr (3, [.int 8, .int 3, .ref 32, .int (A 31 0)]),
  .inl (0, 24, (A 32)),
  .inr (3, [.int 4, .int 5, .ref 34, .int (A 33 0)]),
  .inl (0, 20, (A 34)),
  .inr (3, [.int 20, .int 8, .ref 36, .int (A 35 0)]),
  .inl (0, 160, (A 36)),
  .inr (3, [.int 60, .int 10, .ref 38, .int (A 37 0)]),
  .inl (0, 600, (A 38)),
  .inr (0, [.ref 40, .ref 42, .ref 44, .ref 46, .int (A 39 0), .int (A 39 1)]),
  .inr (3, [.int 8, .int 3, .ref 41, .int (A 40 0)]),
  .inl (0, 24, (A 41)),
  .inr (3, [.int 4, .int 5, .ref 43, .int (A 42 0)]),
  .inl (0, 20, (A 43)),
  .inr (3, [.int 20, .int 8, .ref 45, .int (A 44 0)]),
  .inl (0, 160, (A 45)),
  .inr (3, [.int 60, .int 10, .ref 47, .int (A 46 0)]),
  .inl (0, 600, (A 47)),
  .inr (0, [.ref 49, .ref 51, .ref 53, .ref 55, .int (A 48 0), .int (A 48 1)]),
  .inr (3, [.int 8, .int 3, .ref 50, .int (A 49 0)]),
  .inl (0, 24, (A 50)),
  .inr (3, [.int 4, .int 5, .ref 52, .int (A 51 0)]),
  .inl (0, 20, (A 52)),
  .inr (3, [.int 20, .int 8, .ref 54, .int (A 53 0)]),
  .inl (0, 160, (A 54)),
  .inr (3, [.int 60, .int 10, .ref 56, .int (A 55 0)]),
  .inl (0, 600, (A 56)),
  .inl (0, 8, (A 57)),
  .inl (0, 8, (A 58)),
  .inl (0, 8, (A 59)),
  .inr (8, [.int (A 60 0), .long v, .ref 61, .int (A 60 1), .int (A 60 2), .int (A 60 3), .int (A 60 4), .int (A 60 5), .int (A 60 6), .int (A 60 7), .ref 62, .int (A 60 8), .int (A 60 9), .int (A 60 10), .int (A 60 11), .ref 63, .int (A 60 12), .int (A 60 13), .ref 64, .int (A 60 14), .int (A 60 15), .ref 65, .ref 66, .ref 67, .ref 68, .ref 69, .ref 70, .ref 71, .ref 72]),
  .inl (0, 600, (A 61)),
  .inl (0, 1280, (A 62)),
  .inl (0, 40, (A 63)),
  .inl (0, 3, (A 64)),
  .inl (0, 16, (A 65)),
  .inl (0, 16, (A 66)),
  .inl (0, 8, (A 67)),
  .inl (0, 8, (A 68)),
  .inl (0, 8, (A 69)),
  .inl (0, 805, (A 70)),
  .inl (0, 1610, (A 71)),
  .inl (1, 2, (A 72))]
def G (b : Nat) (u v : Int64) (A : Nat → Nat → Int32) (τ : Nat × Nat × Nat × (Nat → Int32)) : mS := (fun k => (cells b u v A)[k]?, τ)
theorem G_set {b b1 : Nat} {u v u1 v1 : Int64} {A A1 : Nat → Nat → Int32} {τ : Nat × Nat × Nat × (Nat → Int32)} {k : Nat} {e : mE} (hk : k < 73) (h : (cells b u v A).set k e = cells b1 u1 v1 A1) : mset (G b u v A τ) k e = G b1 u1 v1 A1 τ := by
  refine Prod.ext (funext fun j => ?_) rfl
  show hu (fun k => (cells b u v A)[k]?) k e j = (cells b1 u1 v1 A1)[j]?
  rw [← h, List.getElem?_set]
  unfold hu
  by_cases hj : j = k
  · rw [if_pos hj, if_pos hj.symm, if_pos (show k < (cells b u v A).length from hk)]
  · rw [if_neg hj, if_neg (fun z => hj z.symm)]
section HEAP
variable {b b1 w : Nat} {u v u1 v1 : Int64} {A : Nat → Nat → Int32} {τ : Nat × Nat × Nat × (Nat → Int32)} {f : Nat → Int32} {x0 x1 x2 x3 x4 x5 x6 x7 x8 x9 x10 x11 x12 x13 x14 x15 : Int32}
theorem G_rest : (G b u v A τ).2 = τ := rfl
theorem G_0 : (G b u v A τ).1 0 = some (.inr (7, [.ref 1, .ref 3, .ref b, .ref (27 - b), .ref 30, .ref 39, .ref 48, .ref 57, .ref 58, .ref 59, .long u])) := rfl
theorem S_0 : mset (G b u v A τ) 0 (.inr (7, [.ref 1, .ref 3, .ref b1, .ref (27 - b1), .ref 30, .ref 39, .ref 48, .ref 57, .ref 58, .ref 59, .long u1])) = G b1 u1 v A τ := G_set (by decide) rfl
theorem G_1 : (G b u v A τ).1 1 = some (.inr (4, [.ref 2, .int (A 1 0)])) := rfl
theorem S_1 : mset (G b u v A τ) 1 (.inr (4, [.ref 2, .int x0])) = G b u v (up A 1 (fL [x0])) τ := G_set (by decide) rfl
theorem G_2 : (G b u v A τ).1 2 = some (.inl (0, 600, (A 2))) := rfl
theorem S_2 : mset (G b u v A τ) 2 (.inl (0, 600, f)) = G b u v (up A 2 f) τ := G_set (by decide) rfl
theorem G_3 : (G b u v A τ).1 3 = some (.inr (1, [.ref 4])) := rfl
theorem S_3 : mset (G b u v A τ) 3 (.inr (1, [.ref 4])) = G b u v A τ := G_set (by decide) rfl
theorem G_4 : (G b u v A τ).1 4 = some (.inr (5, [.ref 5, .ref 6, .ref 7, .int (A 4 0), .int (A 4 1)])) := rfl
theorem S_4 : mset (G b u v A τ) 4 (.inr (5, [.ref 5, .ref 6, .ref 7, .int x0, .int x1])) = G b u v (up A 4 (fL [x0, x1])) τ := G_set (by decide) rfl
theorem G_5 : (G b u v A τ).1 5 = some (.inl (0, 601, (A 5))) := rfl
theorem S_5 : mset (G b u v A τ) 5 (.inl (0, 601, f)) = G b u v (up A 5 f) τ := G_set (by decide) rfl
theorem G_6 : (G b u v A τ).1 6 = some (.inl (0, 601, (A 6))) := rfl
theorem S_6 : mset (G b u v A τ) 6 (.inl (0, 601, f)) = G b u v (up A 6 f) τ := G_set (by decide) rfl
theorem G_7 : (G b u v A τ).1 7 = some (.inl (0, 601, (A 7))) := rfl
theorem S_7 : mset (G b u v A τ) 7 (.inl (0, 601, f)) = G b u v (up A 7 f) τ := G_set (by decide) rfl
theorem G_30 : (G b u v A τ).1 30 = some (.inr (0, [.ref 31, .ref 33, .ref 35, .ref 37, .int (A 30 0), .int (A 30 1)])) := rfl
theorem S_30 : mset (G b u v A τ) 30 (.inr (0, [.ref 31, .ref 33, .ref 35, .ref 37, .int x0, .int x1])) = G b u v (up A 30 (fL [x0, x1])) τ := G_set (by decide) rfl
theorem G_31 : (G b u v A τ).1 31 = some (.inr (3, [.int 8, .int 3, .ref 32, .int (A 31 0)])) := rfl
theorem S_31 : mset (G b u v A τ) 31 (.inr (3, [.int 8, .int 3, .ref 32, .int x0])) = G b u v (up A 31 (fL [x0])) τ := G_set (by decide) rfl
theorem G_32 : (G b u v A τ).1 32 = some (.inl (0, 24, (A 32))) := rfl
theorem S_32 : mset (G b u v A τ) 32 (.inl (0, 24, f)) = G b u v (up A 32 f) τ := G_set (by decide) rfl
theorem G_33 : (G b u v A τ).1 33 = some (.inr (3, [.int 4, .int 5, .ref 34, .int (A 33 0)])) := rfl
theorem S_33 : mset (G b u v A τ) 33 (.inr (3, [.int 4, .int 5, .ref 34, .int x0])) = G b u v (up A 33 (fL [x0])) τ := G_set (by decide) rfl
theorem G_34 : (G b u v A τ).1 34 = some (.inl (0, 20, (A 34))) := rfl
theorem S_34 : mset (G b u v A τ) 34 (.inl (0, 20, f)) = G b u v (up A 34 f) τ := G_set (by decide) rfl
theorem G_35 : (G b u v A τ).1 35 = some (.inr (3, [.int 20, .int 8, .ref 36, .int (A 35 0)])) := rfl
theorem S_35 : mset (G b u v A τ) 35 (.inr (3, [.int 20, .int 8, .ref 36, .int x0])) = G b u v (up A 35 (fL [x0])) τ := G_set (by decide) rfl
theorem G_36 : (G b u v A τ).1 36 = some (.inl (0, 160, (A 36))) := rfl
theorem S_36 : mset (G b u v A τ) 36 (.inl (0, 160, f)) = G b u v (up A 36 f) τ := G_set (by decide) rfl
theorem G_37 : (G b u v A τ).1 37 = some (.inr (3, [.int 60, .int 10, .ref 38, .int (A 37 0)])) := rfl
theorem S_37 : mset (G b u v A τ) 37 (.inr (3, [.int 60, .int 10, .ref 38, .int x0])) = G b u v (up A 37 (fL [x0])) τ := G_set (by decide) rfl
theorem G_38 : (G b u v A τ).1 38 = some (.inl (0, 600, (A 38))) := rfl
theorem S_38 : mset (G b u v A τ) 38 (.inl (0, 600, f)) = G b u v (up A 38 f) τ := G_set (by decide) rfl
theorem G_39 : (G b u v A τ).1 39 = some (.inr (0, [.ref 40, .ref 42, .ref 44, .ref 46, .int (A 39 0), .int (A 39 1)])) := rfl
theorem S_39 : mset (G b u v A τ) 39 (.inr (0, [.ref 40, .ref 42, .ref 44, .ref 46, .int x0, .int x1])) = G b u v (up A 39 (fL [x0, x1])) τ := G_set (by decide) rfl
theorem G_40 : (G b u v A τ).1 40 = some (.inr (3, [.int 8, .int 3, .ref 41, .int (A 40 0)])) := rfl
theorem S_40 : mset (G b u v A τ) 40 (.inr (3, [.int 8, .int 3, .ref 41, .int x0])) = G b u v (up A 40 (fL [x0])) τ := G_set (by decide) rfl
theorem G_41 : (G b u v A τ).1 41 = some (.inl (0, 24, (A 41))) := rfl
theorem S_41 : mset (G b u v A τ) 41 (.inl (0, 24, f)) = G b u v (up A 41 f) τ := G_set (by decide) rfl
theorem G_42 : (G b u v A τ).1 42 = some (.inr (3, [.int 4, .int 5, .ref 43, .int (A 42 0)])) := rfl
theorem S_42 : mset (G b u v A τ) 42 (.inr (3, [.int 4, .int 5, .ref 43, .int x0])) = G b u v (up A 42 (fL [x0])) τ := G_set (by decide) rfl
theorem G_43 : (G b u v A τ).1 43 = some (.inl (0, 20, (A 43))) := rfl
theorem S_43 : mset (G b u v A τ) 43 (.inl (0, 20, f)) = G b u v (up A 43 f) τ := G_set (by decide) rfl
theorem G_44 : (G b u v A τ).1 44 = some (.inr (3, [.int 20, .int 8, .ref 45, .int (A 44 0)])) := rfl
theorem S_44 : mset (G b u v A τ) 44 (.inr (3, [.int 20, .int 8, .ref 45, .int x0])) = G b u v (up A 44 (fL [x0])) τ := G_set (by decide) rfl
theorem G_45 : (G b u v A τ).1 45 = some (.inl (0, 160, (A 45))) := rfl
theorem S_45 : mset (G b u v A τ) 45 (.inl (0, 160, f)) = G b u v (up A 45 f) τ := G_set (by decide) rfl
theorem G_46 : (G b u v A τ).1 46 = some (.inr (3, [.int 60, .int 10, .ref 47, .int (A 46 0)])) := rfl
theorem S_46 : mset (G b u v A τ) 46 (.inr (3, [.int 60, .int 10, .ref 47, .int x0])) = G b u v (up A 46 (fL [x0])) τ := G_set (by decide) rfl
theorem G_47 : (G b u v A τ).1 47 = some (.inl (0, 600, (A 47))) := rfl
theorem S_47 : mset (G b u v A τ) 47 (.inl (0, 600, f)) = G b u v (up A 47 f) τ := G_set (by decide) rfl
theorem G_48 : (G b u v A τ).1 48 = some (.inr (0, [.ref 49, .ref 51, .ref 53, .ref 55, .int (A 48 0), .int (A 48 1)])) := rfl
theorem S_48 : mset (G b u v A τ) 48 (.inr (0, [.ref 49, .ref 51, .ref 53, .ref 55, .int x0, .int x1])) = G b u v (up A 48 (fL [x0, x1])) τ := G_set (by decide) rfl
theorem G_49 : (G b u v A τ).1 49 = some (.inr (3, [.int 8, .int 3, .ref 50, .int (A 49 0)])) := rfl
theorem S_49 : mset (G b u v A τ) 49 (.inr (3, [.int 8, .int 3, .ref 50, .int x0])) = G b u v (up A 49 (fL [x0])) τ := G_set (by decide) rfl
theorem G_50 : (G b u v A τ).1 50 = some (.inl (0, 24, (A 50))) := rfl
theorem S_50 : mset (G b u v A τ) 50 (.inl (0, 24, f)) = G b u v (up A 50 f) τ := G_set (by decide) rfl
theorem G_51 : (G b u v A τ).1 51 = some (.inr (3, [.int 4, .int 5, .ref 52, .int (A 51 0)])) := rfl
theorem S_51 : mset (G b u v A τ) 51 (.inr (3, [.int 4, .int 5, .ref 52, .int x0])) = G b u v (up A 51 (fL [x0])) τ := G_set (by decide) rfl
theorem G_52 : (G b u v A τ).1 52 = some (.inl (0, 20, (A 52))) := rfl
theorem S_52 : mset (G b u v A τ) 52 (.inl (0, 20, f)) = G b u v (up A 52 f) τ := G_set (by decide) rfl
theorem G_53 : (G b u v A τ).1 53 = some (.inr (3, [.int 20, .int 8, .ref 54, .int (A 53 0)])) := rfl
theorem S_53 : mset (G b u v A τ) 53 (.inr (3, [.int 20, .int 8, .ref 54, .int x0])) = G b u v (up A 53 (fL [x0])) τ := G_set (by decide) rfl
theorem G_54 : (G b u v A τ).1 54 = some (.inl (0, 160, (A 54))) := rfl
theorem S_54 : mset (G b u v A τ) 54 (.inl (0, 160, f)) = G b u v (up A 54 f) τ := G_set (by decide) rfl
theorem G_55 : (G b u v A τ).1 55 = some (.inr (3, [.int 60, .int 10, .ref 56, .int (A 55 0)])) := rfl
theorem S_55 : mset (G b u v A τ) 55 (.inr (3, [.int 60, .int 10, .ref 56, .int x0])) = G b u v (up A 55 (fL [x0])) τ := G_set (by decide) rfl
theorem G_56 : (G b u v A τ).1 56 = some (.inl (0, 600, (A 56))) := rfl
theorem S_56 : mset (G b u v A τ) 56 (.inl (0, 600, f)) = G b u v (up A 56 f) τ := G_set (by decide) rfl
theorem G_57 : (G b u v A τ).1 57 = some (.inl (0, 8, (A 57))) := rfl
theorem S_57 : mset (G b u v A τ) 57 (.inl (0, 8, f)) = G b u v (up A 57 f) τ := G_set (by decide) rfl
theorem G_58 : (G b u v A τ).1 58 = some (.inl (0, 8, (A 58))) := rfl
theorem S_58 : mset (G b u v A τ) 58 (.inl (0, 8, f)) = G b u v (up A 58 f) τ := G_set (by decide) rfl
theorem G_59 : (G b u v A τ).1 59 = some (.inl (0, 8, (A 59))) := rfl
theorem S_59 : mset (G b u v A τ) 59 (.inl (0, 8, f)) = G b u v (up A 59 f) τ := G_set (by decide) rfl
theorem G_60 : (G b u v A τ).1 60 = some (.inr (8, [.int (A 60 0), .long v, .ref 61, .int (A 60 1), .int (A 60 2), .int (A 60 3), .int (A 60 4), .int (A 60 5), .int (A 60 6), .int (A 60 7), .ref 62, .int (A 60 8), .int (A 60 9), .int (A 60 10), .int (A 60 11), .ref 63, .int (A 60 12), .int (A 60 13), .ref 64, .int (A 60 14), .int (A 60 15), .ref 65, .ref 66, .ref 67, .ref 68, .ref 69, .ref 70, .ref 71, .ref 72])) := rfl
theorem S_60 : mset (G b u v A τ) 60 (.inr (8, [.int x0, .long v1, .ref 61, .int x1, .int x2, .int x3, .int x4, .int x5, .int x6, .int x7, .ref 62, .int x8, .int x9, .int x10, .int x11, .ref 63, .int x12, .int x13, .ref 64, .int x14, .int x15, .ref 65, .ref 66, .ref 67, .ref 68, .ref 69, .ref 70, .ref 71, .ref 72])) = G b u v1 (up A 60 (fL [x0, x1, x2, x3, x4, x5, x6, x7, x8, x9, x10, x11, x12, x13, x14, x15])) τ := G_set (by decide) rfl
theorem G_61 : (G b u v A τ).1 61 = some (.inl (0, 600, (A 61))) := rfl
theorem S_61 : mset (G b u v A τ) 61 (.inl (0, 600, f)) = G b u v (up A 61 f) τ := G_set (by decide) rfl
theorem G_62 : (G b u v A τ).1 62 = some (.inl (0, 1280, (A 62))) := rfl
theorem S_62 : mset (G b u v A τ) 62 (.inl (0, 1280, f)) = G b u v (up A 62 f) τ := G_set (by decide) rfl
theorem G_63 : (G b u v A τ).1 63 = some (.inl (0, 40, (A 63))) := rfl
theorem S_63 : mset (G b u v A τ) 63 (.inl (0, 40, f)) = G b u v (up A 63 f) τ := G_set (by decide) rfl
theorem G_64 : (G b u v A τ).1 64 = some (.inl (0, 3, (A 64))) := rfl
theorem S_64 : mset (G b u v A τ) 64 (.inl (0, 3, f)) = G b u v (up A 64 f) τ := G_set (by decide) rfl
theorem G_65 : (G b u v A τ).1 65 = some (.inl (0, 16, (A 65))) := rfl
theorem S_65 : mset (G b u v A τ) 65 (.inl (0, 16, f)) = G b u v (up A 65 f) τ := G_set (by decide) rfl
theorem G_66 : (G b u v A τ).1 66 = some (.inl (0, 16, (A 66))) := rfl
theorem S_66 : mset (G b u v A τ) 66 (.inl (0, 16, f)) = G b u v (up A 66 f) τ := G_set (by decide) rfl
theorem G_67 : (G b u v A τ).1 67 = some (.inl (0, 8, (A 67))) := rfl
theorem S_67 : mset (G b u v A τ) 67 (.inl (0, 8, f)) = G b u v (up A 67 f) τ := G_set (by decide) rfl
theorem G_68 : (G b u v A τ).1 68 = some (.inl (0, 8, (A 68))) := rfl
theorem S_68 : mset (G b u v A τ) 68 (.inl (0, 8, f)) = G b u v (up A 68 f) τ := G_set (by decide) rfl
theorem G_69 : (G b u v A τ).1 69 = some (.inl (0, 8, (A 69))) := rfl
theorem S_69 : mset (G b u v A τ) 69 (.inl (0, 8, f)) = G b u v (up A 69 f) τ := G_set (by decide) rfl
theorem G_70 : (G b u v A τ).1 70 = some (.inl (0, 805, (A 70))) := rfl
theorem S_70 : mset (G b u v A τ) 70 (.inl (0, 805, f)) = G b u v (up A 70 f) τ := G_set (by decide) rfl
theorem G_71 : (G b u v A τ).1 71 = some (.inl (0, 1610, (A 71))) := rfl
theorem S_71 : mset (G b u v A τ) 71 (.inl (0, 1610, f)) = G b u v (up A 71 f) τ := G_set (by decide) rfl
theorem G_72 : (G b u v A τ).1 72 = some (.inl (1, 2, (A 72))) := rfl
theorem S_72 : mset (G b u v A τ) 72 (.inl (1, 2, f)) = G b u v (up A 72 f) τ := G_set (by decide) rfl
theorem G_W0 (hw : w = 8 ∨ w = 19) : (G b u v A τ).1 w = some (.inr (6, [.ref (w + 1), .ref (w + 2), .ref (w + 3), .ref (w + 4), .ref (w + 5), .int (A w 0), .int (A w 1), .int (A w 2), .int (A w 3), .int (A w 4), .int (A w 5), .int (A w 6), .ref (w + 6), .ref (w + 7), .ref (w + 8), .ref (w + 9), .ref (w + 10)])) := by
  rcases hw with rfl | rfl <;> rfl
theorem S_W0 (hw : w = 8 ∨ w = 19) : mset (G b u v A τ) w (.inr (6, [.ref (w + 1), .ref (w + 2), .ref (w + 3), .ref (w + 4), .ref (w + 5), .int x0, .int x1, .int x2, .int x3, .int x4, .int x5, .int x6, .ref (w + 6), .ref (w + 7), .ref (w + 8), .ref (w + 9), .ref (w + 10)])) = G b u v (up A w (fL [x0, x1, x2, x3, x4, x5, x6])) τ := by
  rcases hw with rfl | rfl <;> exact G_set (by decide) rfl
theorem G_W1 (hw : w = 8 ∨ w = 19) : (G b u v A τ).1 (w + 1) = some (.inl (0, 128, (A (w + 1)))) := by
  rcases hw with rfl | rfl <;> rfl
theorem S_W1 (hw : w = 8 ∨ w = 19) : mset (G b u v A τ) (w + 1) (.inl (0, 128, f)) = G b u v (up A (w + 1) f) τ := by
  rcases hw with rfl | rfl <;> exact G_set (by decide) rfl
theorem G_W2 (hw : w = 8 ∨ w = 19) : (G b u v A τ).1 (w + 2) = some (.inl (0, 128, (A (w + 2)))) := by
  rcases hw with rfl | rfl <;> rfl
theorem S_W2 (hw : w = 8 ∨ w = 19) : mset (G b u v A τ) (w + 2) (.inl (0, 128, f)) = G b u v (up A (w + 2) f) τ := by
  rcases hw with rfl | rfl <;> exact G_set (by decide) rfl
theorem G_W3 (hw : w = 8 ∨ w = 19) : (G b u v A τ).1 (w + 3) = some (.inl (0, 512, (A (w + 3)))) := by
  rcases hw with rfl | rfl <;> rfl
theorem S_W3 (hw : w = 8 ∨ w = 19) : mset (G b u v A τ) (w + 3) (.inl (0, 512, f)) = G b u v (up A (w + 3) f) τ := by
  rcases hw with rfl | rfl <;> exact G_set (by decide) rfl
theorem G_W4 (hw : w = 8 ∨ w = 19) : (G b u v A τ).1 (w + 4) = some (.inl (0, 10, (A (w + 4)))) := by
  rcases hw with rfl | rfl <;> rfl
theorem S_W4 (hw : w = 8 ∨ w = 19) : mset (G b u v A τ) (w + 4) (.inl (0, 10, f)) = G b u v (up A (w + 4) f) τ := by
  rcases hw with rfl | rfl <;> exact G_set (by decide) rfl
theorem G_W5 (hw : w = 8 ∨ w = 19) : (G b u v A τ).1 (w + 5) = some (.inl (0, 10, (A (w + 5)))) := by
  rcases hw with rfl | rfl <;> rfl
theorem S_W5 (hw : w = 8 ∨ w = 19) : mset (G b u v A τ) (w + 5) (.inl (0, 10, f)) = G b u v (up A (w + 5) f) τ := by
  rcases hw with rfl | rfl <;> exact G_set (by decide) rfl
theorem G_W6 (hw : w = 8 ∨ w = 19) : (G b u v A τ).1 (w + 6) = some (.inl (0, 16, (A (w + 6)))) := by
  rcases hw with rfl | rfl <;> rfl
theorem S_W6 (hw : w = 8 ∨ w = 19) : mset (G b u v A τ) (w + 6) (.inl (0, 16, f)) = G b u v (up A (w + 6) f) τ := by
  rcases hw with rfl | rfl <;> exact G_set (by decide) rfl
theorem G_W7 (hw : w = 8 ∨ w = 19) : (G b u v A τ).1 (w + 7) = some (.inl (0, 16, (A (w + 7)))) := by
  rcases hw with rfl | rfl <;> rfl
theorem S_W7 (hw : w = 8 ∨ w = 19) : mset (G b u v A τ) (w + 7) (.inl (0, 16, f)) = G b u v (up A (w + 7) f) τ := by
  rcases hw with rfl | rfl <;> exact G_set (by decide) rfl
theorem G_W8 (hw : w = 8 ∨ w = 19) : (G b u v A τ).1 (w + 8) = some (.inl (0, 16, (A (w + 8)))) := by
  rcases hw with rfl | rfl <;> rfl
theorem S_W8 (hw : w = 8 ∨ w = 19) : mset (G b u v A τ) (w + 8) (.inl (0, 16, f)) = G b u v (up A (w + 8) f) τ := by
  rcases hw with rfl | rfl <;> exact G_set (by decide) rfl
theorem G_W9 (hw : w = 8 ∨ w = 19) : (G b u v A τ).1 (w + 9) = some (.inl (0, 16, (A (w + 9)))) := by
  rcases hw with rfl | rfl <;> rfl
theorem S_W9 (hw : w = 8 ∨ w = 19) : mset (G b u v A τ) (w + 9) (.inl (0, 16, f)) = G b u v (up A (w + 9) f) τ := by
  rcases hw with rfl | rfl <;> exact G_set (by decide) rfl
theorem G_W10 (hw : w = 8 ∨ w = 19) : (G b u v A τ).1 (w + 10) = some (.inr (2, [.int (A (w + 10) 0), .int (A (w + 10) 1), .int (A (w + 10) 2), .int (A (w + 10) 3)])) := by
  rcases hw with rfl | rfl <;> rfl
theorem S_W10 (hw : w = 8 ∨ w = 19) : mset (G b u v A τ) (w + 10) (.inr (2, [.int x0, .int x1, .int x2, .int x3])) = G b u v (up A (w + 10) (fL [x0, x1, x2, x3])) τ := by
  rcases hw with rfl | rfl <;> exact G_set (by decide) rfl
end HEAP
