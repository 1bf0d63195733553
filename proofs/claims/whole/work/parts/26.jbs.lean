/-! THE BOOK and s: what a change of s elsewhere leaves. -/
section JBS
variable {tick : Int32} {mr ar lr nr : Nat} {mf af lf nf s s' : Nat → Int32}
theorem JBc_s (hs : ∀ i, i < 5 → s' i = s i) (h : JBc mr ar lr nr tick s) : JBc mr ar lr nr tick s' := by
  unfold JBc
  rw [hs 0 (by omega), hs 1 (by omega), hs 2 (by omega), hs 3 (by omega), hs 4 (by omega)]
  exact h
theorem ParOK_s {g g' : Nat → Int32} {r : Nat} (hs : ∀ j, j < r → g' j = g j) (h : ParOK g r) : ParOK g' r := by
  intro j hj
  rw [hs j hj]
  exact h j hj
theorem JBm_s (hm : mr ≤ 8) (hs : ∀ i, 5 ≤ i → i < 29 → s' i = s i) (h : JBm mr mf s) : JBm mr mf s' := by
  refine ⟨fun j hj => ?_, ParOK_s (fun j hj => hs _ (by omega) (by omega)) h.2⟩
  rw [hs (5 + 3 * j) (by omega) (by omega), hs (5 + 3 * j + 1) (by omega) (by omega), hs (5 + 3 * j + 2) (by omega) (by omega)]
  exact h.1 j hj
theorem JBa_s (hm : ar ≤ 4) (hs : ∀ i, 29 ≤ i → i < 45 → s' i = s i) (h : JBa mr ar nr af nf s) : JBa mr ar nr af nf s' := by
  intro j hj
  rw [hs (29 + 4 * j) (by omega) (by omega), hs (29 + 4 * j + 1) (by omega) (by omega), hs (29 + 4 * j + 2) (by omega) (by omega), hs (29 + 4 * j + 3) (by omega) (by omega)]
  exact h j hj
theorem JBl_s (hm : lr ≤ 20) (hs : ∀ i, 45 ≤ i → i < 205 → s' i = s i) (h : JBl ar lr lf s) : JBl ar lr lf s' := by
  refine ⟨fun j hj => ?_, ParOK_s (fun j hj => hs _ (by omega) (by omega)) h.2⟩
  obtain ⟨⟨h1, h2⟩, h3, h4, h5⟩ := h.1 j hj
  rw [hs (45 + 8 * j + 6) (by omega) (by omega), hs (45 + 8 * j + 4) (by omega) (by omega), hs (45 + 8 * j) (by omega) (by omega)]
  refine ⟨⟨fun c hc => ?_, h2⟩, h3, h4, fun p hp => ?_⟩
  · rw [hs _ (by omega) (by omega)]
    exact h1 c hc
  · rw [hs (45 + 8 * p + 6) (by omega) (by omega)]
    exact h5 p hp
theorem JBn_s (hm : nr ≤ 60) (hs : ∀ i, 205 ≤ i → i < 805 → s' i = s i) (h : JBn ar lr nr nf s) : JBn ar lr nr nf s' := by
  intro j hj
  obtain ⟨h1, h2⟩ := h j hj
  refine ⟨fun c hc => ?_, ?_⟩
  · rw [hs _ (by omega) (by omega)]
    exact h1 c hc
  · rw [hs (205 + 10 * j + 1) (by omega) (by omega), hs (205 + 10 * j + 2) (by omega) (by omega), hs (205 + 10 * j + 3) (by omega) (by omega), hs (205 + 10 * j + 4) (by omega) (by omega), hs (205 + 10 * j + 6) (by omega) (by omega), hs (205 + 10 * j + 8) (by omega) (by omega), hs (205 + 10 * j + 9) (by omega) (by omega)]
    exact h2
/-- a master's limit or what is spent set on both sides -/
theorem JBm_upd (hm : mr ≤ 8) {j c : Nat} (hj : j < mr) (h0 : 0 < c) (h3 : c < 3) {x : Int32} (h : JBm mr mf s) : JBm mr (upd mf (j * 3 + c) x) (upd s (5 + 3 * j + c) x) := by
  refine ⟨fun k hk => ?_, ParOK_s (fun k hk => upd_ne (by omega)) h.2⟩
  obtain ⟨e0, e1, e2⟩ := h.1 k hk
  have e : ∀ d, mf (k * 3 + d) = s (5 + 3 * k + d) → d < 3 → upd mf (j * 3 + c) x (k * 3 + d) = upd s (5 + 3 * j + c) x (5 + 3 * k + d) := by
    intro d hd hd3
    by_cases hh : k = j ∧ d = c
    · obtain ⟨rfl, rfl⟩ := hh
      rw [upd_at, upd_at]
    · rw [upd_ne (by omega), upd_ne (by omega), hd]
  exact ⟨e 0 e0 (by omega), e 1 e1 (by omega), e 2 e2 (by omega)⟩
end JBS
