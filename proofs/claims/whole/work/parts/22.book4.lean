/-! THE BOOK kept in an image. -/
def kst (A : Nat → Nat → Int32) (q o n w : Nat) (f : Nat → Int32) : Nat → Nat → Int32 := up (up A (q + o) (fL [nI n])) (q + o + 1) (mix w f (A (q + o + 1)))
theorem kst_ne {A : Nat → Nat → Int32} {q o n w k : Nat} {f : Nat → Int32} (h : k ≠ q + o) (h' : k ≠ q + o + 1) : kst A q o n w f k = A k := by
  unfold kst
  rw [up_ne h', up_ne h]
theorem kst_0 {A : Nat → Nat → Int32} {q o n w : Nat} {f : Nat → Int32} : kst A q o n w f (q + o) 0 = nI n := by
  unfold kst
  rw [up_ne (by omega), up_at]
  rfl
theorem kst_1 {A : Nat → Nat → Int32} {q o n w : Nat} {f : Nat → Int32} : kst A q o n w f (q + o + 1) = mix w f (A (q + o + 1)) := up_at
def JA (A : Nat → Nat → Int32) (q : Nat) (x y : Int32) (mr : Nat) (mf : Nat → Int32) (ar : Nat) (af : Nat → Int32) (lr : Nat) (lf : Nat → Int32) (nr : Nat) (nf : Nat → Int32) : Nat → Nat → Int32 := up (kst (kst (kst (kst A q 1 mr 24 mf) q 3 ar 20 af) q 5 lr 160 lf) q 7 nr 600 nf) q (fL [x, y])
section IMAGE2
variable {b q : Nat} {u v : Int64} {A : Nat → Nat → Int32} {τ : Nat × Nat × Nat × (Nat → Int32)} {tick kept ti ke x y : Int32} {mr ar lr nr mi ai li ni k : Nat} {mf af lf nf mif aif lif nif f : Nat → Int32}
theorem JA_ne {k : Nat} (h : k < q ∨ q + 8 < k) : JA A q x y mr mf ar af lr lf nr nf k = A k := by
  unfold JA
  rw [up_ne (by omega), kst_ne (by omega) (by omega), kst_ne (by omega) (by omega), kst_ne (by omega) (by omega), kst_ne (by omega) (by omega)]
theorem JA_0 : JA A q x y mr mf ar af lr lf nr nf q = fL [x, y] := up_at
theorem JA_1 : JA A q x y mr mf ar af lr lf nr nf (q + 1) 0 = nI mr := by
  unfold JA
  rw [up_ne (by omega), kst_ne (by omega) (by omega), kst_ne (by omega) (by omega), kst_ne (by omega) (by omega), kst_0]
theorem JA_2 : JA A q x y mr mf ar af lr lf nr nf (q + 2) = mix 24 mf (A (q + 2)) := by
  unfold JA
  rw [up_ne (by omega), kst_ne (by omega) (by omega), kst_ne (by omega) (by omega), kst_ne (by omega) (by omega)]
  exact kst_1
theorem JA_3 : JA A q x y mr mf ar af lr lf nr nf (q + 3) 0 = nI ar := by
  unfold JA
  rw [up_ne (by omega), kst_ne (by omega) (by omega), kst_ne (by omega) (by omega), kst_0]
theorem JA_4 : JA A q x y mr mf ar af lr lf nr nf (q + 4) = mix 20 af (A (q + 4)) := by
  unfold JA
  rw [up_ne (by omega), kst_ne (by omega) (by omega), kst_ne (by omega) (by omega)]
  exact kst_1.trans (by rw [kst_ne (by omega) (by omega)])
theorem JA_5 : JA A q x y mr mf ar af lr lf nr nf (q + 5) 0 = nI lr := by
  unfold JA
  rw [up_ne (by omega), kst_ne (by omega) (by omega), kst_0]
theorem JA_6 : JA A q x y mr mf ar af lr lf nr nf (q + 6) = mix 160 lf (A (q + 6)) := by
  unfold JA
  rw [up_ne (by omega), kst_ne (by omega) (by omega)]
  exact kst_1.trans (by rw [kst_ne (by omega) (by omega), kst_ne (by omega) (by omega)])
theorem JA_7 : JA A q x y mr mf ar af lr lf nr nf (q + 7) 0 = nI nr := by
  unfold JA
  rw [up_ne (by omega), kst_0]
theorem JA_8 : JA A q x y mr mf ar af lr lf nr nf (q + 8) = mix 600 nf (A (q + 8)) := by
  unfold JA
  rw [up_ne (by omega)]
  exact kst_1.trans (by rw [kst_ne (by omega) (by omega), kst_ne (by omega) (by omega), kst_ne (by omega) (by omega)])
theorem B_keep (hq : q = 39 ∨ q = 48) (h1 : mr ≤ 8) (h2 : ar ≤ 4) (h3 : lr ≤ 20) (h4 : nr ≤ 60) (j1 : A (q + 1) 0 = nI mi) (j2 : A (q + 3) 0 = nI ai) (j3 : A (q + 5) 0 = nI li) (j4 : A (q + 7) 0 = nI ni) (i1 : mi ≤ 8) (i2 : ai ≤ 4) (i3 : li ≤ 20) (i4 : ni ≤ 60) : evM 19 [.ref q, .ref 30] (BS b u v A τ tick kept mr mf ar af lr lf nr nf) = some (none, BS b u v (JA A q tick (A q 1) mr mf ar af lr lf nr nf) τ tick kept mr mf ar af lr lf nr nf) := by
  have k1 : evM 40 [.ref (q + 1), .ref 31] (BS b u v A τ tick kept mr mf ar af lr lf nr nf) = some (none, BS b u v (kst A q 1 mr 24 mf) τ tick kept mr mf ar af lr lf nr nf) := mKeep hq h1 j1 i1
  have k2 : evM 40 [.ref (q + 3), .ref 33] (BS b u v (kst A q 1 mr 24 mf) τ tick kept mr mf ar af lr lf nr nf) = some (none, BS b u v (kst (kst A q 1 mr 24 mf) q 3 ar 20 af) τ tick kept mr mf ar af lr lf nr nf) := aKeep hq h2 (by rw [kst_ne (by omega) (by omega)]; exact j2) i2
  have k3 : evM 40 [.ref (q + 5), .ref 35] (BS b u v (kst (kst A q 1 mr 24 mf) q 3 ar 20 af) τ tick kept mr mf ar af lr lf nr nf) = some (none, BS b u v (kst (kst (kst A q 1 mr 24 mf) q 3 ar 20 af) q 5 lr 160 lf) τ tick kept mr mf ar af lr lf nr nf) := lKeep hq h3 (by rw [kst_ne (by omega) (by omega), kst_ne (by omega) (by omega)]; exact j3) i3
  have k4 : evM 40 [.ref (q + 7), .ref 37] (BS b u v (kst (kst (kst A q 1 mr 24 mf) q 3 ar 20 af) q 5 lr 160 lf) τ tick kept mr mf ar af lr lf nr nf) = some (none, BS b u v (kst (kst (kst (kst A q 1 mr 24 mf) q 3 ar 20 af) q 5 lr 160 lf) q 7 nr 600 nf) τ tick kept mr mf ar af lr lf nr nf) := nKeep hq h4 (by rw [kst_ne (by omega) (by omega), kst_ne (by omega) (by omega), kst_ne (by omega) (by omega)]; exact j4) i4
  have e1 : kst (kst (kst (kst A q 1 mr 24 mf) q 3 ar 20 af) q 5 lr 160 lf) q 7 nr 600 nf q 1 = A q 1 := by
    rw [kst_ne (by omega) (by omega), kst_ne (by omega) (by omega), kst_ne (by omega) (by omega), kst_ne (by omega) (by omega)]
  have m := fun B => mIK (A := B) (b := b) (u := u) (v := v) (τ := τ) (tick := tick) (kept := kept) (mr := mr) (mf := mf) (ar := ar) (af := af) (lr := lr) (lf := lf) (nr := nr) (nf := nf) hq
  simp (disch := first | omega | assumption | exact Nat.le_of_ble_eq_true rfl) only [m19, e19_0, e19_1, e19_4, e19_5, e19_8, e19_11, e19_12, e19_15, e19_16, e19_19, e19_22, e19_23, e19_26, e19_27, e19_30, e19_33, e19_34, e19_37, e19_38, e19_41, e19_44, e19_45, e19_46, e19_49, e19_52, gfK, pfK, lnK, isC, alK_n, asK_n, List.getElem?_cons_zero, List.getElem?_cons_succ, List.set_cons_zero, List.set_cons_succ, List.length_cons, List.length_nil, ↓reduceIte, if_true, if_false, eq_self, and_true, true_and, and_self, Option.bind_some, Option.bind_none, Option.toList_some, Option.toList_none, List.cons_append, List.nil_append, mset_at, mset_ne, mset_2, mset_mset, Nat.reduceLT, Nat.reduceAdd, B_30, B_S30, mTR, aTR, lTR, nTR, I_0 hq, I_S0 hq, mIK hq, aIK hq, lIK hq, nIK hq, k1, k2, k3, k4, e1, JA]
end IMAGE2
