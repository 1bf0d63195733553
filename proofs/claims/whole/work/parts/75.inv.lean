/-! THE INVARIANT between two calls, and what leaves its parts. -/
def WP (b : Nat) (A : Nat → Nat → Int32) : Prop := ∃ lc lt nb fr to, WR b A lc lt ∧ BF nb fr to ∧ BRc A b nb fr to ∧ BRm A nb fr to ∧ A (b + 10) 0 = nI (rnd lc lt nb fr to).1 ∧ A (b + 10) 1 = (rnd lc lt nb fr to).2.1 ∧ A (b + 10) 2 = (rnd lc lt nb fr to).2.2.1 ∧ A (b + 10) 3 = (rnd lc lt nb fr to).2.2.2
def TP (A : Nat → Nat → Int32) : Prop := ∃ n t, TX A n t
def PP (A : Nat → Nat → Int32) : Prop := ∃ pr kd, PKb pr kd ∧ PKc pr kd A ∧ PKm pr kd A
def SP (A : Nat → Nat → Int32) : Prop := A 59 = A 69
def KP (A : Nat → Nat → Int32) : Prop := ∃ mr ar lr nr, A 31 0 = nI mr ∧ A 33 0 = nI ar ∧ A 35 0 = nI lr ∧ A 37 0 = nI nr ∧ JB (A 30 0) mr (A 32) ar (A 34) lr (A 36) nr (A 38) (A 70)
def IP (A : Nat → Nat → Int32) (q im : Nat) : Prop := ∃ mi ai li ni, (A (q + 1) 0 = nI mi ∧ A (q + 3) 0 = nI ai ∧ A (q + 5) 0 = nI li ∧ A (q + 7) 0 = nI ni) ∧ (mi ≤ 8 ∧ ai ≤ 4 ∧ li ≤ 20 ∧ ni ≤ 60) ∧ ((A q 1 = 0 ∧ A 72 im = 0) ∨ (A q 1 = 1 ∧ A 72 im = 1 ∧ JB (A q 0) mi (A (q + 2)) ai (A (q + 4)) li (A (q + 6)) ni (A (q + 8)) (fun k => A 71 (805 * im + k))))
def INV (b : Nat) (u v : Int64) (A : Nat → Nat → Int32) : Prop := (b = 8 ∨ b = 19) ∧ u = v ∧ A 60 0 = 0 ∧ WP b A ∧ TP A ∧ PP A ∧ SP A ∧ KP A ∧ IP A 39 0 ∧ IP A 48 1
section INVARIANT
variable {b : Nat} {u v : Int64} {A A' : Nat → Nat → Int32}
theorem WP_of (hb : b = 8 ∨ b = 19) (h : ∀ k, (b ≤ k ∧ k ≤ b + 10) ∨ k = 62 ∨ k = 63 ∨ k = 65 → A' k = A k) (h6 : ∀ i, i < 16 → i ≠ 1 → A' 60 i = A 60 i) (hW : WP b A) : WP b A' := by
  obtain ⟨lc, lt, nb, fr, to, ⟨r1, r2, r3, r4, r5, r6, r7⟩, hB, ⟨q1, q2⟩, ⟨q3, q4⟩, q5⟩ := hW
  have e0 := h b (by omega)
  have e65 := h 65 (by omega)
  refine ⟨lc, lt, nb, fr, to, ⟨r1, fun k hk => ?_, fun k hk => ?_, ?_, ?_, ?_, fun s hs => ?_⟩, hB, ⟨?_, fun j hj => ?_⟩, ⟨?_, fun j hj => ?_⟩, ?_⟩
  · rw [h (b + 1) (by omega), h (b + 2) (by omega), h (b + 3) (by omega)]
    exact r2 k hk
  · rw [h 62 (by omega)]
    exact r3 k hk
  · rw [e0, h6 7 (by omega) (by omega), h6 8 (by omega) (by omega), h6 9 (by omega) (by omega), h6 10 (by omega) (by omega)]
    exact r4
  · rw [e0]; exact r5
  · rw [e0, h6 14 (by omega) (by omega), h6 15 (by omega) (by omega)]
    exact r6
  · rw [e0, e65, h (b + 6) (by omega), h (b + 7) (by omega), h (b + 8) (by omega), h (b + 9) (by omega)]
    exact r7 s hs
  · rw [e0]; exact q1
  · rw [h (b + 4) (by omega), h (b + 5) (by omega)]
    exact q2 j hj
  · rw [h6 11 (by omega) (by omega)]; exact q3
  · rw [h 63 (by omega)]
    exact q4 j hj
  · rw [h (b + 10) (by omega)]
    exact q5
theorem TP_of (h : ∀ k, k = 1 ∨ k = 2 ∨ k = 61 → A' k = A k) (h6 : A' 60 1 = A 60 1) (hT : TP A) : TP A' := by
  obtain ⟨n, t, hT⟩ := hT
  exact ⟨n, t, TX_of h h6 hT⟩
theorem PP_of (h : ∀ k, k = 57 ∨ k = 58 ∨ k = 67 ∨ k = 68 → A' k = A k) (hP : PP A) : PP A' := by
  obtain ⟨pr, kd, h1, h2, h3⟩ := hP
  refine ⟨pr, kd, h1, fun d hd => ?_, fun d hd => ?_⟩
  · rw [h 57 (by omega), h 58 (by omega)]; exact h2 d hd
  · rw [h 67 (by omega), h 68 (by omega)]; exact h3 d hd
theorem SP_of (h : ∀ k, k = 59 ∨ k = 69 → A' k = A k) (hS : SP A) : SP A' := by
  unfold SP
  rw [h 59 (by omega), h 69 (by omega)]
  exact hS
theorem KP_of (h : ∀ k, (30 ≤ k ∧ k ≤ 38) ∨ k = 70 → A' k = A k) (hK : KP A) : KP A' := by
  obtain ⟨mr, ar, lr, nr, h1, h2, h3, h4, h5⟩ := hK
  refine ⟨mr, ar, lr, nr, ?_, ?_, ?_, ?_, ?_⟩
  · rw [h 31 (by omega)]; exact h1
  · rw [h 33 (by omega)]; exact h2
  · rw [h 35 (by omega)]; exact h3
  · rw [h 37 (by omega)]; exact h4
  · rw [h 30 (by omega), h 32 (by omega), h 34 (by omega), h 36 (by omega), h 38 (by omega), h 70 (by omega)]; exact h5
theorem IP_of {q im : Nat} (h : ∀ k, (q ≤ k ∧ k ≤ q + 8) ∨ k = 71 ∨ k = 72 → A' k = A k) (hI : IP A q im) : IP A' q im := by
  obtain ⟨mi, ai, li, ni, h1, h2, h3⟩ := hI
  refine ⟨mi, ai, li, ni, ?_, h2, ?_⟩
  · rw [h (q + 1) (by omega), h (q + 3) (by omega), h (q + 5) (by omega), h (q + 7) (by omega)]
    exact h1
  · rw [h q (by omega), h 72 (by omega), h (q + 2) (by omega), h (q + 4) (by omega), h (q + 6) (by omega), h (q + 8) (by omega), h 71 (by omega)]
    exact h3
/-- what may change without a word: the text's reading, sure's row -/
theorem INV_same (h : ∀ k, k ≠ 66 → A' k = A k) (hI : INV b u v A) : INV b u v A' := by
  obtain ⟨i1, i2, i3, i4, i5, i6, i7, i8, i9, i10⟩ := hI
  exact ⟨i1, i2, by rw [h 60 (by omega)]; exact i3, WP_of i1 (fun k hk => h k (by omega)) (fun i _ _ => by rw [h 60 (by omega)]) i4, TP_of (fun k hk => h k (by omega)) (by rw [h 60 (by omega)]) i5, PP_of (fun k hk => h k (by omega)) i6, SP_of (fun k hk => h k (by omega)) i7, KP_of (fun k hk => h k (by omega)) i8, IP_of (fun k hk => h k (by omega)) i9, IP_of (fun k hk => h k (by omega)) i10⟩
theorem INV_text {n : Nat} {t : Nat → Nat} (hT : TX A' n t) (h6 : ∀ i, i < 16 → i ≠ 1 → A' 60 i = A 60 i) (h : ∀ k, k ≠ 1 → k ≠ 2 → k ≠ 60 → k ≠ 61 → A' k = A k) (hI : INV b u v A) : INV b u v A' := by
  obtain ⟨i1, i2, i3, i4, i5, i6, i7, i8, i9, i10⟩ := hI
  exact ⟨i1, i2, by rw [h6 0 (by omega) (by omega)]; exact i3, WP_of i1 (fun k hk => h k (by omega) (by omega) (by omega) (by omega)) h6 i4, ⟨n, t, hT⟩, PP_of (fun k hk => h k (by omega) (by omega) (by omega) (by omega)) i6, SP_of (fun k hk => h k (by omega) (by omega) (by omega) (by omega)) i7, KP_of (fun k hk => h k (by omega) (by omega) (by omega) (by omega)) i8, IP_of (fun k hk => h k (by omega) (by omega) (by omega) (by omega)) i9, IP_of (fun k hk => h k (by omega) (by omega) (by omega) (by omega)) i10⟩
theorem INV_price (hP : PP A') (h : ∀ k, k ≠ 57 → k ≠ 58 → k ≠ 67 → k ≠ 68 → A' k = A k) (hI : INV b u v A) : INV b u v A' := by
  obtain ⟨i1, i2, i3, i4, i5, i6, i7, i8, i9, i10⟩ := hI
  have e60 : A' 60 = A 60 := h 60 (by omega) (by omega) (by omega) (by omega)
  exact ⟨i1, i2, by rw [e60]; exact i3, WP_of i1 (fun k hk => h k (by omega) (by omega) (by omega) (by omega)) (fun i _ _ => by rw [e60]) i4, TP_of (fun k hk => h k (by omega) (by omega) (by omega) (by omega)) (by rw [e60]) i5, hP, SP_of (fun k hk => h k (by omega) (by omega) (by omega) (by omega)) i7, KP_of (fun k hk => h k (by omega) (by omega) (by omega) (by omega)) i8, IP_of (fun k hk => h k (by omega) (by omega) (by omega) (by omega)) i9, IP_of (fun k hk => h k (by omega) (by omega) (by omega) (by omega)) i10⟩
/-- the book, the model's s and the wishes changed together -/
theorem INV_book {C : Nat → Nat → Int32} (h : ∀ k, (k < 30 ∨ 38 < k) → k ≠ 70 → k ≠ 59 → k ≠ 69 → C k = A k) (hS : SP C) (hK : KP C) (hI : INV b u v A) : INV b u v C := by
  obtain ⟨i1, i2, i3, i4, i5, i6, i7, i8, i9, i10⟩ := hI
  have e60 : C 60 = A 60 := h 60 (by omega) (by omega) (by omega) (by omega)
  exact ⟨i1, i2, by rw [e60]; exact i3, WP_of i1 (fun k hk => h k (by omega) (by omega) (by omega) (by omega)) (fun i _ _ => by rw [e60]) i4, TP_of (fun k hk => h k (by omega) (by omega) (by omega) (by omega)) (by rw [e60]) i5, PP_of (fun k hk => h k (by omega) (by omega) (by omega) (by omega)) i6, hS, hK, IP_of (fun k hk => h k (by omega) (by omega) (by omega) (by omega)) i9, IP_of (fun k hk => h k (by omega) (by omega) (by omega) (by omega)) i10⟩
/-- a call's two answers, and what it leaves -/
def CALL {α : Type} (K : α → Value) (c m : Nat) (as : List Value) : Prop := ∀ (b : Nat) (u v : Int64) (A : Nat → Nat → Int32) (τ : Nat × Nat × Nat × (Nat → Int32)), INV b u v A → ∃ (r : α) (b1 : Nat) (u1 : Int64) (A1 : Nat → Nat → Int32) (b2 : Nat) (u2 v2 : Int64) (A2 : Nat → Nat → Int32), evM c (.ref 0 :: as) (G b u v A τ) = some (some (K r), G b1 u1 v A1 τ) ∧ evM m (.ref 60 :: as) (G b1 u1 v A1 τ) = some (some (K r), G b2 u2 v2 A2 τ) ∧ INV b2 u2 v2 A2
theorem CALL_rd {α : Type} {K : α → Value} {c m : Nat} {as : List Value} (h : ∀ (b : Nat) (u v : Int64) (A : Nat → Nat → Int32) (τ : Nat × Nat × Nat × (Nat → Int32)), INV b u v A → ∃ r : α, evM c (.ref 0 :: as) (G b u v A τ) = some (some (K r), G b u v A τ) ∧ evM m (.ref 60 :: as) (G b u v A τ) = some (some (K r), G b u v A τ)) : CALL K c m as := fun b u v A τ hI => by
  obtain ⟨r, h1, h2⟩ := h b u v A τ hI
  exact ⟨r, b, u, A, b, u, v, A, h1, h2, hI⟩
theorem BA_30 {tick kept : Int32} {mr ar lr nr : Nat} {mf af lf nf s : Nat → Int32} : up (BA A tick kept mr mf ar af lr lf nr nf) 70 s 30 0 = tick ∧ up (BA A tick kept mr mf ar af lr lf nr nf) 70 s 31 0 = nI mr ∧ up (BA A tick kept mr mf ar af lr lf nr nf) 70 s 32 = mf ∧ up (BA A tick kept mr mf ar af lr lf nr nf) 70 s 33 0 = nI ar ∧ up (BA A tick kept mr mf ar af lr lf nr nf) 70 s 34 = af ∧ up (BA A tick kept mr mf ar af lr lf nr nf) 70 s 35 0 = nI lr ∧ up (BA A tick kept mr mf ar af lr lf nr nf) 70 s 36 = lf ∧ up (BA A tick kept mr mf ar af lr lf nr nf) 70 s 37 0 = nI nr ∧ up (BA A tick kept mr mf ar af lr lf nr nf) 70 s 38 = nf ∧ up (BA A tick kept mr mf ar af lr lf nr nf) 70 s 70 = s := ⟨rfl, rfl, rfl, rfl, rfl, rfl, rfl, rfl, rfl, rfl⟩
theorem KP_BA {tick kept : Int32} {mr ar lr nr : Nat} {mf af lf nf s : Nat → Int32} (hJ : JB tick mr mf ar af lr lf nr nf s) : KP (up (BA A tick kept mr mf ar af lr lf nr nf) 70 s) := ⟨mr, ar, lr, nr, rfl, rfl, rfl, rfl, hJ⟩
theorem BA70_ne {tick kept : Int32} {mr ar lr nr k : Nat} {mf af lf nf s : Nat → Int32} (h : k < 30 ∨ 38 < k) (h70 : k ≠ 70) : up (BA A tick kept mr mf ar af lr lf nr nf) 70 s k = A k := by
  rw [up_ne h70]
  exact BA_ne h
/-- a call on the book alone -/
theorem CALL_bk {α : Type} {K : α → Value} {c m : Nat} {as : List Value} (H : ∀ (b : Nat) (u v : Int64) (A : Nat → Nat → Int32) (τ : Nat × Nat × Nat × (Nat → Int32)) (mr ar lr nr : Nat), INV b u v A → JB (A 30 0) mr (A 32) ar (A 34) lr (A 36) nr (A 38) (A 70) → ∃ (r : α) (tick' : Int32) (mr' : Nat) (mf' : Nat → Int32) (ar' : Nat) (af' : Nat → Int32) (lr' : Nat) (lf' : Nat → Int32) (nr' : Nat) (nf' s' : Nat → Int32), evM c (.ref 0 :: as) (BS b u v A τ (A 30 0) (A 30 1) mr (A 32) ar (A 34) lr (A 36) nr (A 38)) = some (some (K r), BS b u v A τ tick' (A 30 1) mr' mf' ar' af' lr' lf' nr' nf') ∧ (∀ C : Nat → Nat → Int32, (∀ k, k < 30 ∨ 38 < k → C k = A k) → evM m (.ref 60 :: as) (MS b u v C τ (A 70)) = some (some (K r), MS b u v C τ s')) ∧ JB tick' mr' mf' ar' af' lr' lf' nr' nf' s') : CALL K c m as := fun b u v A τ hI => by
  obtain ⟨mr, ar, lr, nr, k1, k2, k3, k4, hJ⟩ := hI.2.2.2.2.2.2.2.1
  obtain ⟨r, tick', mr', mf', ar', af', lr', lf', nr', nf', s', h1, h2, h3⟩ := H b u v A τ mr ar lr nr hI hJ
  rw [← BA_eq rfl rfl k1 k2 k3 k4] at h1
  have h4 := h2 (BA A tick' (A 30 1) mr' mf' ar' af' lr' lf' nr' nf') (fun k hk => BA_ne hk)
  have e70 : BA A tick' (A 30 1) mr' mf' ar' af' lr' lf' nr' nf' 70 = A 70 := BA_ne (by omega)
  rw [← e70] at h4
  have e : MS b u v (BA A tick' (A 30 1) mr' mf' ar' af' lr' lf' nr' nf') τ (BA A tick' (A 30 1) mr' mf' ar' af' lr' lf' nr' nf' 70) = BS b u v A τ tick' (A 30 1) mr' mf' ar' af' lr' lf' nr' nf' := by
    rw [MS, up_same]
    rfl
  rw [e] at h4
  refine ⟨r, b, u, BA A tick' (A 30 1) mr' mf' ar' af' lr' lf' nr' nf', b, u, v, up (BA A tick' (A 30 1) mr' mf' ar' af' lr' lf' nr' nf') 70 s', h1, h4, INV_book (fun k hk h70 _ _ => BA70_ne hk h70) (SP_of (fun k hk => BA70_ne (by omega) (by omega)) hI.2.2.2.2.2.2.1) (KP_BA h3) hI⟩
end INVARIANT
