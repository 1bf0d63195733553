/-! EVERY CALL but world leaves the invariant, and both sides answer alike. -/
section ALLCALLS
theorem k_type (x : Int64) (y : Int32) : CALL Value.int 86 144 [.long x, .int y] := fun b u v A τ hI => by
  obtain ⟨n, t, hT⟩ := hI.2.2.2.2.1
  obtain ⟨r, A1, A2, n', t', h1, h2, h3, h4, h5⟩ := w_type (b := b) (u := u) (v := v) (τ := τ) hT hI.2.2.1 x y
  exact ⟨r, b, u, A1, b, u, v, A2, h1, h2, INV_text h3 h4 h5 hI⟩
theorem k_clear : CALL Value.int 88 146 [] := fun b u v A τ hI => by
  obtain ⟨n, t, hT⟩ := hI.2.2.2.2.1
  obtain ⟨r, A1, A2, h1, h2, h3, h4, h5⟩ := w_clear (b := b) (u := u) (v := v) (τ := τ) hT hI.2.2.1
  exact ⟨r, b, u, A1, b, u, v, A2, h1, h2, INV_text h3 h4 h5 hI⟩
theorem k_set (x : Int32) : CALL Value.int 90 160 [.int x] := CALL_rd fun b u v A τ hI => by
  obtain ⟨lc, lt, nb, fr, to, hR, -⟩ := hI.2.2.2.1
  exact w_set hI.1 hR hI.2.2.1 x
theorem k_lot (x y z : Int32) : CALL Value.int 91 161 [.int x, .int y, .int z] := CALL_rd fun b u v A τ hI => by
  obtain ⟨lc, lt, nb, fr, to, hR, -⟩ := hI.2.2.2.1
  exact w_lot hI.1 hR hI.2.2.1 x y z
theorem k_let (x : Int32) : CALL Value.int 93 164 [.int x] := CALL_rd fun b u v A τ hI => by
  obtain ⟨lc, lt, nb, fr, to, hR, -⟩ := hI.2.2.2.1
  exact w_let hI.1 hR hI.2.2.1 x
theorem k_doom (x : Int32) : CALL Value.int 94 167 [.int x] := CALL_rd fun b u v A τ hI => by
  obtain ⟨lc, lt, nb, fr, to, hR, -⟩ := hI.2.2.2.1
  exact w_doom hI.1 hR hI.2.2.1 x
theorem k_sure (x y z : Int32) : CALL Value.int 95 168 [.int x, .int y, .int z] := fun b u v A τ hI => by
  obtain ⟨lc, lt, nb, fr, to, hR, -⟩ := hI.2.2.2.1
  obtain ⟨r, A', h1, h2, h3⟩ := w_sure (b := b) (u := u) (v := v) (τ := τ) hI.1 hR hI.2.2.1 x y z
  exact ⟨r, b, u, A, b, u, v, A', h1, h2, INV_same h3 hI⟩
theorem k_instead (x y : Int32) : CALL Value.int 96 170 [.int x, .int y] := CALL_rd fun b u v A τ hI => by
  obtain ⟨lc, lt, nb, fr, to, hR, -⟩ := hI.2.2.2.1
  obtain ⟨pr, kd, p1, p2, p3⟩ := hI.2.2.2.2.2.1
  exact w_instead hI.1 hR hI.2.2.1 (fun d hd => (p2 d hd).1) (fun d hd => (p3 d hd).1) (fun d hd => (p1 d hd).1) x y
theorem k_doing (x y z : Int32) : CALL Value.int 100 173 [.int x, .int y, .int z] := fun b u v A τ hI => by
  obtain ⟨pr, kd, p1, p2, p3⟩ := hI.2.2.2.2.2.1
  obtain ⟨r, pr', kd', g1, g2, g3⟩ := w_doing x y z p1
  obtain ⟨A1, h1, h2, h3⟩ := g2 b u v A τ p2
  have p3' : PKm pr kd A1 := fun d hd => by
    rw [h3 67 (by omega) (by omega), h3 68 (by omega) (by omega)]
    exact p3 d hd
  obtain ⟨A2, d1, d2, d3⟩ := g3 b u v A1 τ (by rw [h3 60 (by omega) (by omega)]; exact hI.2.2.1) p3'
  refine ⟨r, b, u, A1, b, u, v, A2, h1, d1, INV_price ⟨pr', kd', g1, fun d hd => ?_, d2⟩ (fun k k1 k2 k3 k4 => by rw [d3 k k3 k4, h3 k k1 k2]) hI⟩
  rw [d3 57 (by omega) (by omega), d3 58 (by omega) (by omega)]
  exact h2 d hd
theorem k_due (x y : Int32) : CALL Value.int 101 174 [.int x, .int y] := fun b u v A τ hI => by
  obtain ⟨pr, kd, p1, p2, p3⟩ := hI.2.2.2.2.2.1
  obtain ⟨r, m, g1, g2⟩ := w_due x y p1
  obtain ⟨i1, i2, i3⟩ := hI
  exact ⟨r, b, u + m, A, b, u + m, v + m, A, g1 b u v A τ p2, g2 b (u + m) v A τ i3.1 p3, i1, by rw [i2], i3⟩
theorem k_trace : CALL Value.long 136 216 [] := fun b u v A τ hI => by
  obtain ⟨h1, h2⟩ := w_trace (b := b) (u := u) (v := v) (τ := τ) hI.2.2.1
  exact ⟨u, b, u, A, b, u, v, A, h1, by rw [h2, hI.2.1], hI⟩
theorem k_round (x : Int32) : CALL Value.int 123 203 [.int x] := CALL_rd fun b u v A τ hI => by
  obtain ⟨lc, lt, nb, fr, to, hR, hB, hc, hm, r0, r1, r2, r3⟩ := hI.2.2.2.1
  exact w_round hI.1 hR hB hm hI.2.2.1 r0 r1 r2 r3 x
theorem k_limit (x y : Int32) : CALL Value.int 103 178 [.int x, .int y] := CALL_bk fun b u v A τ mr ar lr nr hI hJ => by
  obtain ⟨r, mf', s', h1, h2, h3⟩ := c_limit (kept := A 30 1) hJ x y
  exact ⟨r, _, _, _, _, _, _, _, _, _, _, h1 b u v A τ, fun C hC => h2 b u v C τ (by rw [hC 60 (by omega)]; exact hI.2.2.1), h3⟩
theorem k_budget (x y : Int32) : CALL Value.int 122 202 [.int x, .int y] := CALL_bk fun b u v A τ mr ar lr nr hI hJ => by
  obtain ⟨r, h1, h2⟩ := c_budget (kept := A 30 1) hJ x y
  exact ⟨r, _, _, _, _, _, _, _, _, _, _, h1 b u v A τ, fun C hC => h2 b u v C τ (by rw [hC 60 (by omega)]; exact hI.2.2.1), hJ⟩
theorem k_yes (x : Int32) : CALL Value.int 110 191 [.int x] := CALL_bk fun b u v A τ mr ar lr nr hI hJ => by
  obtain ⟨r, af', s', h1, h2, h3⟩ := c_yes (kept := A 30 1) hJ x
  exact ⟨r, _, _, _, _, _, _, _, _, _, _, h1 b u v A τ, fun C hC => h2 b u v C τ (by rw [hC 60 (by omega)]; exact hI.2.2.1), h3⟩
theorem k_wait (x : Int32) : CALL Value.int 118 197 [.int x] := CALL_bk fun b u v A τ mr ar lr nr hI hJ => by
  obtain ⟨r, tick', s', h1, h2, h3⟩ := c_wait (kept := A 30 1) hJ x
  exact ⟨r, _, _, _, _, _, _, _, _, _, _, h1 b u v A τ, fun C hC => h2 b u v C τ (by rw [hC 60 (by omega)]; exact hI.2.2.1), h3⟩
theorem k_line (x y : Int32) : CALL Value.int 119 198 [.int x, .int y] := CALL_bk fun b u v A τ mr ar lr nr hI hJ => by
  obtain ⟨r, h1, h2⟩ := c_line (kept := A 30 1) hJ x y
  exact ⟨r, _, _, _, _, _, _, _, _, _, _, h1 b u v A τ, fun C hC => h2 b u v C τ (by rw [hC 60 (by omega)]; exact hI.2.2.1), hJ⟩
theorem k_leave (x y : Int32) : CALL Value.int 109 190 [.int x, .int y] := CALL_bk fun b u v A τ mr ar lr nr hI hJ => by
  obtain ⟨r, h1, h2⟩ := c_leave (kept := A 30 1) hJ x y
  exact ⟨r, _, _, _, _, _, _, _, _, _, _, h1 b u v A τ, fun C hC => h2 b u v C τ (by rw [hC 60 (by omega)]; exact hI.2.2.1), hJ⟩
theorem k_led (x y : Int32) : CALL Value.int 120 200 [.int x, .int y] := CALL_bk fun b u v A τ mr ar lr nr hI hJ => by
  obtain ⟨r, h1, h2⟩ := c_led (kept := A 30 1) hJ x y
  exact ⟨r, _, _, _, _, _, _, _, _, _, _, h1 b u v A τ, fun C hC => h2 b u v C τ (by rw [hC 60 (by omega)]; exact hI.2.2.1), hJ⟩
theorem k_about (x y : Int32) : CALL Value.int 121 201 [.int x, .int y] := CALL_bk fun b u v A τ mr ar lr nr hI hJ => by
  obtain ⟨r, h1, h2⟩ := c_about (kept := A 30 1) hJ x y
  exact ⟨r, _, _, _, _, _, _, _, _, _, _, h1 b u v A τ, fun C hC => h2 b u v C τ (by rw [hC 60 (by omega)]; exact hI.2.2.1), hJ⟩
theorem k_machine (x y : Int32) : CALL Value.int 104 179 [.int x, .int y] := CALL_bk fun b u v A τ mr ar lr nr hI hJ => by
  obtain ⟨r, ar', af', s', h1, h2, h3⟩ := c_machine (kept := A 30 1) hJ x y
  exact ⟨r, _, _, _, _, _, _, _, _, _, _, h1 b u v A τ, fun C hC => h2 b u v C τ (by rw [hC 60 (by omega)]; exact hI.2.2.1), h3⟩
theorem k_give (x m y z q : Int32) : CALL Value.int 105 180 [.int x, .int m, .int y, .int z, .int q] := CALL_bk fun b u v A τ mr ar lr nr hI hJ => by
  obtain ⟨r, lr', lf', s', h1, h2, h3⟩ := c_give (kept := A 30 1) hJ x m y z q
  exact ⟨r, _, _, _, _, _, _, _, _, _, _, h1 b u v A τ, fun C hC => h2 b u v C τ (by rw [hC 60 (by omega)]; exact hI.2.2.1), h3⟩
theorem k_lend (x m y z q : Int32) : CALL Value.int 107 186 [.int x, .int m, .int y, .int z, .int q] := CALL_bk fun b u v A τ mr ar lr nr hI hJ => by
  obtain ⟨r, lr', lf', s', h1, h2, h3⟩ := c_lend (kept := A 30 1) hJ x m y z q
  exact ⟨r, _, _, _, _, _, _, _, _, _, _, h1 b u v A τ, fun C hC => h2 b u v C τ (by rw [hC 60 (by omega)]; exact hI.2.2.1), h3⟩
theorem k_withdraw (x : Int32) : CALL Value.int 108 189 [.int x] := CALL_bk fun b u v A τ mr ar lr nr hI hJ => by
  obtain ⟨r, lf', s', h1, h2, h3⟩ := c_withdraw (kept := A 30 1) hJ x
  exact ⟨r, _, _, _, _, _, _, _, _, _, _, h1 b u v A τ, fun C hC => h2 b u v C τ (by rw [hC 60 (by omega)]; exact hI.2.2.1), h3⟩
theorem k_odd (x y z : Int32) : CALL Value.long 124 205 [.int x, .int y, .int z] := CALL_bk fun b u v A τ mr ar lr nr hI hJ => by
  obtain ⟨r, h1, h2⟩ := c_odd (kept := A 30 1) hJ x y z
  exact ⟨r, _, _, _, _, _, _, _, _, _, _, h1 b u v A τ, fun C hC => h2 b u v C τ (by rw [hC 60 (by omega)]; exact hI.2.2.1), hJ⟩
theorem k_undo (x : Int32) : CALL Value.int 117 196 [.int x] := CALL_bk fun b u v A τ mr ar lr nr hI hJ => by
  obtain ⟨pr, kd, p1, p2, p3⟩ := hI.2.2.2.2.2.1
  obtain ⟨r, mf', af', nf', s', h1, h2, h3⟩ := c_undo (kept := A 30 1) hJ p1 x
  exact ⟨r, _, _, _, _, _, _, _, _, _, _, h1 b u v A τ p2, fun C hC => h2 b u v C τ (by rw [hC 60 (by omega)]; exact hI.2.2.1) (fun d hd => by rw [hC 67 (by omega), hC 68 (by omega)]; exact p3 d hd), h3⟩
theorem k_quarrel : CALL Value.int 131 211 [] := CALL_bk fun b u v A τ mr ar lr nr hI hJ => by
  obtain ⟨r, h1, h2⟩ := c_quarrel (kept := A 30 1) hJ (A 59)
  exact ⟨r, _, _, _, _, _, _, _, _, _, _, h1 b u v A τ (fun i _ => rfl), fun C hC => h2 b u v C τ (by rw [hC 60 (by omega)]; exact hI.2.2.1) (fun i hi => by rw [hC 69 (by omega), ← hI.2.2.2.2.2.2.1]), hJ⟩
theorem WR_bk {b : Nat} {A C : Nat → Nat → Int32} {lc : Nat → Nat} {lt : Nat → Nat → Nat} (hb : b = 8 ∨ b = 19) (hC : ∀ k, k < 30 ∨ 38 < k → C k = A k) (hR : WR b A lc lt) : WR b C lc lt := WR_of hb (fun k hk => hC k (by omega)) hR
theorem k_beside (x : Int32) : CALL Value.int 132 212 [.int x] := CALL_bk fun b u v A τ mr ar lr nr hI hJ => by
  obtain ⟨lc, lt, nb, fr, to, hR, -⟩ := hI.2.2.2.1
  obtain ⟨r, h1, h2⟩ := c_beside (kept := A 30 1) hJ hI.1 lc lt x
  exact ⟨r, _, _, _, _, _, _, _, _, _, _, h1 u v A τ hR, fun C hC => h2 u v C τ (by rw [hC 60 (by omega)]; exact hI.2.2.1) (WR_bk hI.1 hC hR), hJ⟩
theorem k_wished (x : Int32) : CALL Value.int 128 208 [.int x] := CALL_bk fun b u v A τ mr ar lr nr hI hJ => by
  obtain ⟨lc, lt, nb, fr, to, hR, -⟩ := hI.2.2.2.1
  obtain ⟨r, h1, h2⟩ := c_wished (kept := A 30 1) hJ hI.1 x lc lt (A 59) (A b 6)
  have eb : b < 30 ∨ 38 < b := by have := hI.1; omega
  exact ⟨r, _, _, _, _, _, _, _, _, _, _, h1 u v A τ hR rfl (fun i _ => rfl), fun C hC => h2 u v C τ (by rw [hC 60 (by omega)]; exact hI.2.2.1) (WR_bk hI.1 hC hR) (by rw [hC b eb]) (fun i hi => by rw [hC 69 (by omega), ← hI.2.2.2.2.2.2.1]), hJ⟩
theorem k_act (x y z w : Int32) : CALL Value.int 111 192 [.int x, .int y, .int z, .int w] := CALL_bk fun b u v A τ mr ar lr nr hI hJ => by
  obtain ⟨lc, lt, nb, fr, to, hR, -⟩ := hI.2.2.2.1
  obtain ⟨pr, kd, p1, p2, p3⟩ := hI.2.2.2.2.2.1
  obtain ⟨r, tick', mf', af', lf', nr', nf', s', h1, h2, h3⟩ := c_act (kept := A 30 1) hJ p1 hI.1 hR.1 (A b 4) (A b 5) (A b 6) x y z w
  have eb : b < 30 ∨ 38 < b := by have := hI.1; omega
  exact ⟨r, _, _, _, _, _, _, _, _, _, _, h1 u v A τ hR rfl rfl rfl p2, fun C hC => h2 u v C τ (by rw [hC 60 (by omega)]; exact hI.2.2.1) (WR_bk hI.1 hC hR) (by rw [hC b eb]) (by rw [hC b eb]) (by rw [hC b eb]) (fun d hd => by rw [hC 67 (by omega), hC 68 (by omega)]; exact p3 d hd), h3⟩
theorem k_count (x : Int32) : CALL Value.int 135 215 [.int x] := CALL_bk fun b u v A τ mr ar lr nr hI hJ => by
  obtain ⟨lc, lt, nb, fr, to, hR, hB, hc, hm, -⟩ := hI.2.2.2.1
  obtain ⟨n, t, hT⟩ := hI.2.2.2.2.1
  obtain ⟨r, h1, h2⟩ := c_count (kept := A 30 1) hJ (A b 0) (A b 1) (A 1 0) x
  exact ⟨r, _, _, _, _, _, _, _, _, _, _, h1 b u v A τ hI.1 rfl rfl rfl, fun C hC => h2 b u v C τ (by rw [hC 60 (by omega)]; exact hI.2.2.1) (by rw [hC 60 (by omega)]; exact hR.2.2.2.1.1.symm) (by rw [hC 60 (by omega), hm.1, hc.1]) (by rw [hC 60 (by omega), hT.2.2.1, hT.2.1]), hJ⟩
/-- a call on the book and the wishes -/
theorem CALL_bw {c m : Nat} {as : List Value} (H : ∀ (mr ar lr nr : Nat) (tick kept : Int32) (mf af lf nf s ws : Nat → Int32), JB tick mr mf ar af lr lf nr nf s → ∃ (r : Int32) (mr' : Nat) (mf' s' wf : Nat → Int32), (∀ (b : Nat) (u v : Int64) (A : Nat → Nat → Int32) (τ : Nat × Nat × Nat × (Nat → Int32)), A 59 = ws → evM c (.ref 0 :: as) (BS b u v A τ tick kept mr mf ar af lr lf nr nf) = some (some (.int r), BS b u v (up A 59 wf) τ tick kept mr' mf' ar af lr lf nr nf)) ∧ (∀ (b : Nat) (u v : Int64) (A : Nat → Nat → Int32) (τ : Nat × Nat × Nat × (Nat → Int32)), A 60 0 = 0 → A 69 = ws → evM m (.ref 60 :: as) (MS b u v A τ s) = some (some (.int r), MS b u v (up A 69 wf) τ s')) ∧ JB tick mr' mf' ar af lr lf nr nf s') : CALL Value.int c m as := fun b u v A τ hI => by
  obtain ⟨mr, ar, lr, nr, k1, k2, k3, k4, hJ⟩ := hI.2.2.2.2.2.2.2.1
  obtain ⟨r, mr', mf', s', wf, h1, h2, h3⟩ := H mr ar lr nr (A 30 0) (A 30 1) (A 32) (A 34) (A 36) (A 38) (A 70) (A 59) hJ
  have g1 := h1 b u v A τ rfl
  rw [← BA_eq rfl rfl k1 k2 k3 k4] at g1
  obtain ⟨C, hC⟩ : ∃ C, C = BA (up A 59 wf) (A 30 0) (A 30 1) mr' mf' ar (A 34) lr (A 36) nr (A 38) := ⟨_, rfl⟩
  have hCk : ∀ k, (k < 30 ∨ 38 < k) → k ≠ 59 → C k = A k := fun k hk h59 => by rw [hC, BA_ne hk, up_ne h59]
  have c59 : C 59 = wf := by rw [hC, BA_ne (by omega), up_at]
  have g2 := h2 b u v C τ (by rw [hCk 60 (by omega) (by omega)]; exact hI.2.2.1) (by rw [hCk 69 (by omega) (by omega)]; exact hI.2.2.2.2.2.2.1.symm)
  have e1 : MS b u v C τ (A 70) = G b u v C τ := by
    rw [← hCk 70 (by omega) (by omega), MS, up_same]
  have e2 : BS b u v (up A 59 wf) τ (A 30 0) (A 30 1) mr' mf' ar (A 34) lr (A 36) nr (A 38) = G b u v C τ := by rw [hC]; rfl
  rw [e1] at g2
  rw [e2] at g1
  refine ⟨r, b, u, C, b, u, v, up (up C 69 wf) 70 s', g1, g2, INV_book (fun k hk k1 k2 k3 => by rw [up_ne k1, up_ne k3, hCk k hk k2]) ?_ ?_ hI⟩
  · show up (up C 69 wf) 70 s' 59 = up (up C 69 wf) 70 s' 69
    rw [up_ne (by omega), up_ne (by omega), up_ne (by omega), up_at, c59]
  · have hK : KP (up C 70 s') := by rw [hC]; exact KP_BA h3
    rw [up_swap (by omega)]
    exact KP_of (fun k hk => up_ne (by omega)) hK
theorem k_master (x y : Int32) : CALL Value.int 102 176 [.int x, .int y] := CALL_bw fun mr ar lr nr tick kept mf af lf nf s ws hJ => by
  obtain ⟨r, mr', mf', s', g, h1, h2, h3⟩ := c_master (kept := kept) hJ x y
  exact ⟨r, mr', mf', s', g ws, fun b u v A τ e => by rw [← e]; exact h1 b u v A τ, fun b u v A τ h0 e => by rw [← e]; exact h2 b u v A τ h0, h3⟩
theorem k_wish (x y : Int32) : CALL Value.int 127 207 [.int x, .int y] := CALL_bw fun mr ar lr nr tick kept mf af lf nf s ws hJ => by
  obtain ⟨r, g, g1, h1, h2⟩ := c_wish (kept := kept) hJ ws x y
  exact ⟨r, mr, mf, s, g ws, fun b u v A τ e => by
    have := h1 b u v A τ (fun i _ => by rw [e])
    rw [e] at this
    exact this, fun b u v A τ h0 e => by
    have := h2 b u v A τ h0 (fun i _ => by rw [e])
    rw [e] at this
    exact this, hJ⟩
theorem IP_cell {b : Nat} {u v : Int64} {A : Nat → Nat → Int32} {q im : Nat} (hI : INV b u v A) (hq : (im = 0 ∧ q = 39) ∨ (im = 1 ∧ q = 48)) : IP A q im := by
  rcases hq with ⟨rfl, rfl⟩ | ⟨rfl, rfl⟩
  · exact hI.2.2.2.2.2.2.2.2.1
  · exact hI.2.2.2.2.2.2.2.2.2
theorem im_q {im : Nat} (h : im < 2) : ∃ q, (im = 0 ∧ q = 39) ∨ (im = 1 ∧ q = 48) := by
  by_cases h0 : im = 0
  · exact ⟨39, Or.inl ⟨h0, rfl⟩⟩
  · exact ⟨48, Or.inr ⟨by omega, rfl⟩⟩
theorem k_back (x : Int32) : CALL Value.int 134 214 [.int x] := CALL_bk fun b u v A τ mr ar lr nr hI hJ => by
  rcases idx x (n := 2) (by omega) with hx | ⟨im, him, rfl⟩
  · obtain ⟨-, -, h3, h4⟩ := c_keepN (tick := A 30 0) (kept := A 30 1) (mr := mr) (mf := A 32) (ar := ar) (af := A 34) (lr := lr) (lf := A 36) (nr := nr) (nf := A 38) (st := A 70) hx
    exact ⟨-1, _, _, _, _, _, _, _, _, _, _, h3 b u v A τ, fun C hC => h4 b u v C τ (by rw [hC 60 (by omega)]; exact hI.2.2.1), hJ⟩
  · obtain ⟨q, hq⟩ := im_q him
    obtain ⟨mi, ai, li, ni, ⟨j1, j2, j3, j4⟩, ⟨i1, i2, i3, i4⟩, h5⟩ := IP_cell hI hq
    obtain ⟨h1, h2, h3, h4⟩ := c_back (kept := A 30 1) hJ hq
    rcases h5 with ⟨a1, a2⟩ | ⟨a1, a2, a3⟩
    · exact ⟨-2, _, _, _, _, _, _, _, _, _, _, h1 b u v A τ a1, fun C hC => h2 b u v C τ (by rw [hC 60 (by omega)]; exact hI.2.2.1) (by rw [hC 72 (by omega)]; exact a2), hJ⟩
    · have e4 : A 71 (805 * im + 4) = A q 0 := a3.1.2.2.2.2.2.2.2.2.2
      refine ⟨A q 0, _, _, _, _, _, _, _, _, _, mix 805 (fun k => A 71 (805 * im + k)) (A 70), h3 b u v A τ mi ai li ni a1 j1 j2 j3 j4 i1 i2 i3 i4, fun C hC => ?_, JB_congr (fun i hi => if_pos hi) (fun i hi => if_pos hi) (fun i hi => if_pos hi) (fun i hi => if_pos hi) (fun i hi => if_pos hi) a3⟩
      have h := h4 b u v C τ (by rw [hC 60 (by omega)]; exact hI.2.2.1) (by rw [hC 72 (by omega)]; exact a2)
      rw [hC 71 (by omega), e4] at h
      exact h
theorem k_keep (x : Int32) : CALL Value.int 133 213 [.int x] := fun b u v A τ hI => by
  obtain ⟨mr, ar, lr, nr, k1, k2, k3, k4, hJ⟩ := hI.2.2.2.2.2.2.2.1
  rcases idx x (n := 2) (by omega) with hx | ⟨im, him, rfl⟩
  · have hN : CALL Value.int 133 213 [.int x] := CALL_bk fun b u v A τ mr ar lr nr hI hJ => by
      obtain ⟨h3, h4, -, -⟩ := c_keepN (tick := A 30 0) (kept := A 30 1) (mr := mr) (mf := A 32) (ar := ar) (af := A 34) (lr := lr) (lf := A 36) (nr := nr) (nf := A 38) (st := A 70) hx
      exact ⟨-1, _, _, _, _, _, _, _, _, _, _, h3 b u v A τ, fun C hC => h4 b u v C τ (by rw [hC 60 (by omega)]; exact hI.2.2.1), hJ⟩
    exact hN b u v A τ hI
  · obtain ⟨q, hq⟩ := im_q him
    have hq' : q = 39 ∨ q = 48 := by omega
    obtain ⟨mi, ai, li, ni, ⟨j1, j2, j3, j4⟩, ⟨i1, i2, i3, i4⟩, -⟩ := IP_cell hI hq
    obtain ⟨h1, h2⟩ := c_keep (kept := A 30 1) hJ hq
    have g1 := h1 b u v A τ mi ai li ni j1 j2 j3 j4 i1 i2 i3 i4
    rw [← BA_eq rfl rfl k1 k2 k3 k4] at g1
    obtain ⟨J, hJA⟩ : ∃ J, J = JA A q (A 30 0) 1 mr (A 32) ar (A 34) lr (A 36) nr (A 38) := ⟨_, rfl⟩
    rw [← hJA] at g1
    obtain ⟨C, hC⟩ : ∃ C, C = BA J (A 30 0) (A 30 1) mr (A 32) ar (A 34) lr (A 36) nr (A 38) := ⟨_, rfl⟩
    have hJk : ∀ k, k < q ∨ q + 8 < k → J k = A k := fun k hk => by rw [hJA, JA_ne hk]
    have hCk : ∀ k, (k < 30 ∨ 38 < k) → C k = J k := fun k hk => by rw [hC, BA_ne hk]
    have hCA : ∀ k, (k < 30 ∨ 38 < k) → (k < q ∨ q + 8 < k) → C k = A k := fun k hk h => by rw [hCk k hk, hJk k h]
    have g2 := h2 b u v C τ (by rw [hCA 60 (by omega) (by omega)]; exact hI.2.2.1)
    have e1 : MS b u v C τ (A 70) = G b u v C τ := by
      rw [← hCA 70 (by omega) (by omega), MS, up_same]
    have e2 : BS b u v J τ (A 30 0) (A 30 1) mr (A 32) ar (A 34) lr (A 36) nr (A 38) = G b u v C τ := by rw [hC]; rfl
    rw [e1] at g2
    rw [e2] at g1
    have e71 : C 71 = A 71 := hCA 71 (by omega) (by omega)
    have e72 : C 72 = A 72 := hCA 72 (by omega) (by omega)
    rw [e71, e72] at g2
    obtain ⟨D, hD⟩ : ∃ D, D = up (up (up C 71 (kcp im 805 (A 70) (A 71))) 72 (upd (A 72) im 1)) 70 (A 70) := ⟨_, rfl⟩
    have e3 : MS b u v (up (up C 71 (kcp im 805 (A 70) (A 71))) 72 (upd (A 72) im 1)) τ (A 70) = G b u v D τ := by rw [hD]; rfl
    rw [e3] at g2
    have hDC : ∀ k, k ≠ 70 → k ≠ 71 → k ≠ 72 → D k = C k := fun k k1 k2 k3 => by rw [hD, up_ne k1, up_ne k3, up_ne k2]
    have d71 : D 71 = kcp im 805 (A 70) (A 71) := by rw [hD, up_ne (by omega), up_ne (by omega), up_at]
    have d72 : D 72 = upd (A 72) im 1 := by rw [hD, up_ne (by omega), up_at]
    have hDA : ∀ k, (k < 30 ∨ 38 < k) → (k < q ∨ q + 8 < k) → k ≠ 70 → k ≠ 71 → k ≠ 72 → D k = A k := fun k hk h k1 k2 k3 => by rw [hDC k k1 k2 k3, hCA k hk h]
    have hDJ : ∀ k, q ≤ k → k ≤ q + 8 → D k = J k := fun k a c => by rw [hDC k (by omega) (by omega) (by omega), hCk k (by omega)]
    have hK : KP D := by
      have hK : KP (up C 70 (A 70)) := by rw [hC]; exact KP_BA hJ
      refine KP_of (fun k hk => ?_) hK
      by_cases h70 : k = 70
      · rw [h70, hD, up_at, up_at]
      · rw [hDC k h70 (by omega) (by omega), up_ne h70]
    have hnew : IP D q im := by
      refine ⟨mr, ar, lr, nr, ⟨?_, ?_, ?_, ?_⟩, ⟨hJ.1.2.1, hJ.1.2.2.1, hJ.1.2.2.2.1, hJ.1.2.2.2.2.1⟩, Or.inr ⟨?_, ?_, ?_⟩⟩
      · rw [hDJ (q + 1) (by omega) (by omega), hJA, JA_1]
      · rw [hDJ (q + 3) (by omega) (by omega), hJA, JA_3]
      · rw [hDJ (q + 5) (by omega) (by omega), hJA, JA_5]
      · rw [hDJ (q + 7) (by omega) (by omega), hJA, JA_7]
      · rw [hDJ q (by omega) (by omega), hJA, JA_0]; rfl
      · rw [d72, upd_at]
      · rw [hDJ q (by omega) (by omega), hDJ (q + 2) (by omega) (by omega), hDJ (q + 4) (by omega) (by omega), hDJ (q + 6) (by omega) (by omega), hDJ (q + 8) (by omega) (by omega), hJA, JA_0, JA_2, JA_4, JA_6, JA_8, d71]
        refine JB_congr (fun i hi => if_pos hi) (fun i hi => if_pos hi) (fun i hi => if_pos hi) (fun i hi => if_pos hi) (fun i hi => ?_) hJ
        show kcp im 805 (A 70) (A 71) (805 * im + i) = A 70 i
        rw [kcp, if_pos (by omega), show 805 * im + i - 805 * im = i by omega]
    have hold : ∀ q' im', ((im' = 0 ∧ q' = 39) ∨ (im' = 1 ∧ q' = 48)) → im' ≠ im → IP A q' im' → IP D q' im' := fun q' im' hq2 hne h => by
      have hd : ∀ k, q' ≤ k → k ≤ q' + 8 → D k = A k := fun k a c => hDA k (by omega) (by omega) (by omega) (by omega) (by omega)
      obtain ⟨m2, a2, l2, n2, p1, p2, p3⟩ := h
      refine ⟨m2, a2, l2, n2, ?_, p2, ?_⟩
      · rw [hd (q' + 1) (by omega) (by omega), hd (q' + 3) (by omega) (by omega), hd (q' + 5) (by omega) (by omega), hd (q' + 7) (by omega) (by omega)]
        exact p1
      · rw [hd q' (by omega) (by omega), d72, upd_ne hne, hd (q' + 2) (by omega) (by omega), hd (q' + 4) (by omega) (by omega), hd (q' + 6) (by omega) (by omega), hd (q' + 8) (by omega) (by omega), d71]
        rcases p3 with p3 | ⟨p4, p5, p6⟩
        · exact Or.inl p3
        · refine Or.inr ⟨p4, p5, JB_congr (fun _ _ => rfl) (fun _ _ => rfl) (fun _ _ => rfl) (fun _ _ => rfl) (fun i hi => ?_) p6⟩
          show kcp im 805 (A 70) (A 71) (805 * im' + i) = A 71 (805 * im' + i)
          rw [kcp, if_neg (by omega)]
    obtain ⟨z1, z2, z3, z4, z5, z6, z7, z8, z9, z10⟩ := id hI
    have d60 : D 60 = A 60 := hDA 60 (by omega) (by omega) (by omega) (by omega) (by omega)
    have hf : ∀ q' im', ((im' = 0 ∧ q' = 39) ∨ (im' = 1 ∧ q' = 48)) → IP D q' im' := fun q' im' hq2 => by
      by_cases h : im' = im
      · have : q' = q := by omega
        subst this
        subst h
        exact hnew
      · exact hold q' im' hq2 h (IP_cell hI hq2)
    refine ⟨A 30 0, b, u, C, b, u, v, D, g1, g2, z1, z2, by rw [d60]; exact z3, WP_of z1 (fun k hk => hDA k (by omega) (by omega) (by omega) (by omega) (by omega)) (fun i _ _ => by rw [d60]) z4, TP_of (fun k hk => hDA k (by omega) (by omega) (by omega) (by omega) (by omega)) (by rw [d60]) z5, PP_of (fun k hk => hDA k (by omega) (by omega) (by omega) (by omega) (by omega)) z6, SP_of (fun k hk => hDA k (by omega) (by omega) (by omega) (by omega) (by omega)) z7, hK, hf 39 0 (Or.inl ⟨rfl, rfl⟩), hf 48 1 (Or.inr ⟨rfl, rfl⟩)⟩
end ALLCALLS
