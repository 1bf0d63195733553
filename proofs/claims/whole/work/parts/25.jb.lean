/-! THE BOOK and s: what holds between them between calls. -/
def JBc (mr ar lr nr : Nat) (tick : Int32) (s : Nat → Int32) : Prop := 1 ≤ mr ∧ mr ≤ 8 ∧ ar ≤ 4 ∧ lr ≤ 20 ∧ nr ≤ 60 ∧ s 0 = nI mr ∧ s 1 = nI ar ∧ s 2 = nI lr ∧ s 3 = nI nr ∧ s 4 = tick
def JBm (mr : Nat) (mf s : Nat → Int32) : Prop := (∀ j, j < mr → mf (j * 3) = s (5 + 3 * j) ∧ mf (j * 3 + 1) = s (5 + 3 * j + 1) ∧ mf (j * 3 + 2) = s (5 + 3 * j + 2)) ∧ ParOK (fun j => s (5 + 3 * j)) mr
def JBa (mr ar nr : Nat) (af nf s : Nat → Int32) : Prop := ∀ j, j < ar → (af (j * 5) = s (29 + 4 * j + 1) ∧ af (j * 5 + 1) = s (29 + 4 * j) ∧ af (j * 5 + 2) = s (29 + 4 * j + 3) ∧ af (j * 5 + 3) = nI (cntF (fun k => decide (nf (k * 10 + 1) = nI j)) nr) ∧ af (j * 5 + 4) = s (29 + 4 * j + 2)) ∧ (∃ m, m < mr ∧ s (29 + 4 * j) = nI m) ∧ (∃ t, t < 16 ∧ s (29 + 4 * j + 1) = nI t) ∧ (∃ t, t < 16 ∧ s (29 + 4 * j + 2) = nI t) ∧ (∃ y, y ≤ 9 ∧ s (29 + 4 * j + 3) = nI y)
def JBl (ar lr : Nat) (lf s : Nat → Int32) : Prop := (∀ j, j < lr → ((∀ c, c < 6 → lf (j * 8 + c) = s (45 + 8 * j + c)) ∧ lf (j * 8 + 7) = s (45 + 8 * j + 6)) ∧ (s (45 + 8 * j + 6) = 0 ∨ s (45 + 8 * j + 6) = 1) ∧ (∃ m, m < ar ∧ s (45 + 8 * j) = nI m) ∧ (∀ p, p < j → s (45 + 8 * j + 4) = nI p → s (45 + 8 * p + 6) = 1 → s (45 + 8 * j + 6) = 1)) ∧ ParOK (fun j => s (45 + 8 * j + 4)) lr
def JBn (ar lr nr : Nat) (nf s : Nat → Int32) : Prop := ∀ j, j < nr → (∀ c, c < 10 → nf (j * 10 + c) = s (205 + 10 * j + c)) ∧ (∃ m, m < ar ∧ s (205 + 10 * j + 1) = nI m) ∧ (∃ d, d < 8 ∧ s (205 + 10 * j + 2) = nI d) ∧ (∃ d, d < 8 ∧ s (205 + 10 * j + 3) = nI d) ∧ (∃ t, t < 16 ∧ s (205 + 10 * j + 4) = nI t) ∧ (∃ l, l < lr ∧ s (205 + 10 * j + 6) = nI l) ∧ (s (205 + 10 * j + 8) = 0 ∨ s (205 + 10 * j + 8) = 1) ∧ (∃ l, l < 4 ∧ s (205 + 10 * j + 9) = nI l)
def JB (tick : Int32) (mr : Nat) (mf : Nat → Int32) (ar : Nat) (af : Nat → Int32) (lr : Nat) (lf : Nat → Int32) (nr : Nat) (nf : Nat → Int32) (s : Nat → Int32) : Prop := JBc mr ar lr nr tick s ∧ JBm mr mf s ∧ JBa mr ar nr af nf s ∧ JBl ar lr lf s ∧ JBn ar lr nr nf s
/-- an index in its range, or not -/
theorem idx (x : Int32) {n : Nat} (hn : n < 2147483648) : (x < 0 ∨ nI n ≤ x) ∨ ∃ j, j < n ∧ x = nI j := by
  by_cases h0 : x < 0
  · exact Or.inl (Or.inl h0)
  · by_cases h1 : nI n ≤ x
    · exact Or.inl (Or.inr h1)
    · have g0 : 0 ≤ x.toInt := by
        have h0' : ¬ x.toInt < 0 := fun h => h0 (Int32.lt_iff_toInt_lt.2 h)
        omega
      have g1 : ¬ (n : Int) ≤ x.toInt := fun h => h1 (Int32.le_iff_toInt_le.2 (by rw [nI_toInt hn]; exact h))
      refine Or.inr ⟨x.toInt.toNat, by omega, Int32.toInt_inj.1 ?_⟩
      rw [nI_toInt (by omega)]
      omega
theorem not_in {x : Int32} {n : Nat} (h : x < 0 ∨ nI n ≤ x) : ¬ (0 ≤ x ∧ x < nI n) := by
  rw [i32lt x (nI n)]
  rcases h with h | h
  · rw [i32lt] at h
    exact fun g => h g.1
  · exact fun g => g.2 h
theorem is_in {j n : Nat} (h : j < n) (hn : n < 2147483648) : (0 : Int32) ≤ nI j ∧ nI j < nI n := ⟨(nI_0_le (n := j) (by omega)).mpr trivial, (nI_ltI (by omega) hn).2 h⟩
section JBL
variable {tick : Int32} {mr ar lr nr : Nat} {mf af lf nf s : Nat → Int32}
theorem JB_m (h : JBm mr mf s) {j : Nat} (hj : j < mr) (hm : mr ≤ 8) : ∃ L, IsCh (fun j => mf (j * 3)) mr (nI j) L ∧ IsCh (fun j => s (5 + 3 * j)) mr (nI j) L ∧ L.length ≤ 8 := by
  obtain ⟨L, h1, h2, h3⟩ := ch_ex h.2 (j + 1) j (by omega) hj
  exact ⟨L, ch_congr (fun k hk => ((h.1 k hk).1).symm) L _ h1, h1, by omega⟩
theorem JB_l (h : JBl ar lr lf s) (hm : lr ≤ 20) : ∃ Ls : Nat → List Nat, ∀ j, j < lr → IsCh (fun j => lf (j * 8 + 4)) lr (nI j) (Ls j) ∧ IsCh (fun j => s (45 + 8 * j + 4)) lr (nI j) (Ls j) ∧ (Ls j).length ≤ 20 := by
  have hx : ∀ j, ∃ L : List Nat, j < lr → IsCh (fun j => lf (j * 8 + 4)) lr (nI j) L ∧ IsCh (fun j => s (45 + 8 * j + 4)) lr (nI j) L ∧ L.length ≤ 20 := by
    intro j
    by_cases hj : j < lr
    · obtain ⟨L, h1, h2, h3⟩ := ch_ex h.2 (j + 1) j (by omega) hj
      exact ⟨L, fun _ => ⟨ch_congr (fun k hk => ((h.1 k hk).1.1 4 (by omega)).symm) L _ h1, h1, by omega⟩⟩
    · exact ⟨[], fun h => absurd h hj⟩
  exact ⟨fun j => Classical.choose (hx j), fun j => Classical.choose_spec (hx j)⟩
end JBL
