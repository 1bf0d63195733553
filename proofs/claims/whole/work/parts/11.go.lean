/-! A STEP that goes on: one theorem, a case an instruction. -/
section GO
variable {p : Program} {l : Launch} {e : Env} {R : Room} {s : State} {m : MethodId} {args : Array Value} {below : List Frame} {meth : Method} {c0 : Code} {H : Heap} {locs : List Loc} {kc ks : Nat} {Q : State → Prop}
variable {b : Nat} {D : va_G} {cA K V : Nat → Nat} {σ σ' : mS} {M pc pc' : Nat} {lsr : Array Slot} {ls ls' : mL} {st st' : List Value} {q : mI}
theorem sw_ok {pc : Nat} {df lo hi : Int} {off : Array Int} {x : Int32} (h0 : 0 ≤ (pc : Int) + df) (h1 : off.toList.all (fun o => decide (0 ≤ (pc : Int) + o)) = true) : (pc : Int) + swT df lo hi off x = (((pc : Int) + swT df lo hi off x).toNat : Int) := by
  have h2 : 0 ≤ (pc : Int) + swT df lo hi off x := by
    unfold swT
    split
    · exact h0
    · cases hz : off[(x.toInt - lo).toNat]? with
      | none => simpa using h0
      | some o =>
        have hm : o ∈ off.toList := by
          have := Array.getElem?_eq_some_iff.mp hz
          obtain ⟨hl, he⟩ := this
          rw [← he]
          exact Array.getElem_mem_toList hl
        have := List.all_eq_true.mp h1 o hm
        simpa using this
  omega
theorem snd_go (C : CX M p R s m args meth c0) (X : XT b D cA K V σ.2.2.2 s) (hq : okq M pc q = true) (hs : stp ctT (mRt M) q pc ls st σ = some (.inl (pc', ls', st', σ'))) (hR : Rel b D cA K σ H) (hS : va_S (mA0 b) s.heap H locs) (hL : mLS b K lsr (mLc M) ls)
    (hkc : kc + σ'.2.1 ≤ R.cells + σ.2.1) (hks : ks + σ'.2.2.1 ≤ R.slots + σ.2.2.1)
    (kk : ∀ (kc' ks' : Nat) (H' : Heap) (locs' : List Loc) (lsr' : Array Slot), kc' + σ.2.1 = kc + σ'.2.1 → ks' + σ.2.2.1 = ks + σ'.2.2.1 → σ'.2.2.2 = σ.2.2.2 → Rel b D cA K σ' H' → va_S (mA0 b) s.heap H' locs' → mLS b K lsr' (mLc M) ls' → W p l e R s m args below meth c0 H' locs' kc' ks' Q (F0 m pc' lsr' (st'.map (mv b K)))) :
    W p l e R s m args below meth c0 H locs kc ks Q (F0 m pc lsr (st.map (mv b K))) := by
  obtain ⟨ins, len, a, b1, c, d⟩ := q
  obtain ⟨hdg, hlen, hok⟩ := okq_dec hq
  have C' := C
  obtain ⟨hx, hb, hml, hown, hts, hin2, hRf, hRl⟩ := C
  have hsz : c0.maxLocals = lsr.size := by rw [hml]; exact hL.1.symm
  have hl4 := hL.2.2.2
  cases ins with
  | iconst n =>
    simp only [stp] at hs
    have hlen : 1 = len := by rcases hlen with h | h; (exact absurd (show (1 : Nat) = 0 from h) (by decide)); exact h
    subst hlen
    cases hs
    exact lv_iconst hx hb hdg rfl (kk kc ks H locs lsr rfl rfl rfl hR hS hL)
  | bipush n =>
    simp only [stp] at hs
    have hlen : 2 = len := by rcases hlen with h | h; (exact absurd (show (2 : Nat) = 0 from h) (by decide)); exact h
    subst hlen
    cases hs
    exact lv_bipush hx hb hdg rfl (kk kc ks H locs lsr rfl rfl rfl hR hS hL)
  | sipush n =>
    simp only [stp] at hs
    have hlen : 3 = len := by rcases hlen with h | h; (exact absurd (show (3 : Nat) = 0 from h) (by decide)); exact h
    subst hlen
    cases hs
    exact lv_sipush hx hb hdg rfl (kk kc ks H locs lsr rfl rfl rfl hR hS hL)
  | lconst n =>
    simp only [stp] at hs
    have hlen : 1 = len := by rcases hlen with h | h; (exact absurd (show (1 : Nat) = 0 from h) (by decide)); exact h
    subst hlen
    cases hs
    exact lv_lconst hx hb hdg rfl (kk kc ks H locs lsr rfl rfl rfl hR hS hL)
  | ldc i =>
    simp only [stp] at hs
    have hlen : 2 = len := by rcases hlen with h | h; (exact absurd (show (2 : Nat) = 0 from h) (by decide)); exact h
    subst hlen
    by_cases hc : c = 1
    · subst hc
      rw [if_pos rfl] at hs
      cases hs
      simp only [oka, Nat.beq_refl, cond_true, Bool.and_eq_true, Nat.beq_eq] at hok
      have hm := in2_mem hok.1
      have hz := X.2.2.2.1 _ hm
      have hc5 : cN (mCl M) = "ReinHall$Tokens" := by rw [hok.2]; rfl
      have h4 : (UInt32.ofNat a).toNat = a := st_small _ hm
      refine va_ldcS hx hb (by rw [← hc5]; exact hown) hz hdg ?_
      have := kk kc ks H locs lsr rfl rfl rfl hR hS hL
      simpa only [List.map_cons, mv, h4] using this
    · rw [if_neg hc] at hs
      cases hs
      have hcb : Nat.beq c 1 = false := by cases hz : Nat.beq c 1 with | true => exact absurd (Nat.eq_of_beq_eq_true hz) hc | false => rfl
      simp only [oka, hcb, cond_false] at hok
      exact W.ldc hx hb hown (hts _ (tt_of (cst_ok (mCl M, i, a) (in3_mem hok)) rfl)) rfl hdg (kk kc ks H locs lsr rfl rfl rfl hR hS hL)
  | ldc_w i =>
    simp only [stp] at hs
    have hlen : 3 = len := by rcases hlen with h | h; (exact absurd (show (3 : Nat) = 0 from h) (by decide)); exact h
    subst hlen
    cases hs
    simp only [oka] at hok
    exact lv_ldcw hx hb hown (hts _ (tt_of (cst_ok (mCl M, i, a) (in3_mem hok)) rfl)) hdg (kk kc ks H locs lsr rfl rfl rfl hR hS hL)
  | ldc2_w i =>
    simp only [stp] at hs
    have hlen : 3 = len := by rcases hlen with h | h; (exact absurd (show (3 : Nat) = 0 from h) (by decide)); exact h
    subst hlen
    cases hs
    simp only [oka] at hok
    exact W.ldc2 hx hb hown (hts _ (tt_of (csl_ok (mCl M, i, a, c) (in4_mem hok)) rfl)) rfl hdg (kk kc ks H locs lsr rfl rfl rfl hR hS hL)
  | iload_n n =>
    simp only [stp] at hs
    have hlen : 1 = len := by rcases hlen with h | h; (exact absurd (show (1 : Nat) = 0 from h) (by decide)); exact h
    subst hlen
    obtain ⟨x, hx1, hs⟩ := lvI_some hs
    cases hs
    exact lv_iload_n hx hb hdg rfl (hl4 _ _ hx1) (kk kc ks H locs lsr rfl rfl rfl hR hS hL)
  | iload n =>
    simp only [stp] at hs
    have hlen : 2 = len := by rcases hlen with h | h; (exact absurd (show (2 : Nat) = 0 from h) (by decide)); exact h
    subst hlen
    obtain ⟨x, hx1, hs⟩ := lvI_some hs
    cases hs
    exact lv_iload hx hb hdg (hl4 _ _ hx1) (kk kc ks H locs lsr rfl rfl rfl hR hS hL)
  | lload_n n =>
    simp only [stp] at hs
    have hlen : 1 = len := by rcases hlen with h | h; (exact absurd (show (1 : Nat) = 0 from h) (by decide)); exact h
    subst hlen
    obtain ⟨x, hx1, hs⟩ := lvL_some hs
    cases hs
    exact lv_lload_n hx hb hdg rfl (hl4 _ _ hx1) (kk kc ks H locs lsr rfl rfl rfl hR hS hL)
  | lload n =>
    simp only [stp] at hs
    have hlen : 2 = len := by rcases hlen with h | h; (exact absurd (show (2 : Nat) = 0 from h) (by decide)); exact h
    subst hlen
    obtain ⟨x, hx1, hs⟩ := lvL_some hs
    cases hs
    exact lv_lload hx hb hdg (hl4 _ _ hx1) (kk kc ks H locs lsr rfl rfl rfl hR hS hL)
  | aload_n n =>
    simp only [stp] at hs
    have hlen : 1 = len := by rcases hlen with h | h; (exact absurd (show (1 : Nat) = 0 from h) (by decide)); exact h
    subst hlen
    obtain ⟨v, ⟨⟨x, rfl⟩, hx1, hs⟩ | ⟨⟨x, rfl⟩, hx1, hs⟩⟩ := lvR_some hs
    · cases hs
      exact lv_aload_n hx hb hdg rfl (hl4 _ _ hx1) (kk kc ks H locs lsr rfl rfl rfl hR hS hL)
    · cases hs
      exact lv_aload_n hx hb hdg rfl (hl4 _ _ hx1) (kk kc ks H locs lsr rfl rfl rfl hR hS hL)
  | aload n =>
    simp only [stp] at hs
    have hlen : 2 = len := by rcases hlen with h | h; (exact absurd (show (2 : Nat) = 0 from h) (by decide)); exact h
    subst hlen
    obtain ⟨v, ⟨⟨x, rfl⟩, hx1, hs⟩ | ⟨⟨x, rfl⟩, hx1, hs⟩⟩ := lvR_some hs
    · cases hs
      exact lv_aload hx hb hdg (hl4 _ _ hx1) (kk kc ks H locs lsr rfl rfl rfl hR hS hL)
    · cases hs
      exact lv_aload hx hb hdg (hl4 _ _ hx1) (kk kc ks H locs lsr rfl rfl rfl hR hS hL)
  | istore_n n =>
    simp only [stp] at hs
    have hlen : 1 = len := by rcases hlen with h | h; (exact absurd (show (1 : Nat) = 0 from h) (by decide)); exact h
    subst hlen
    obtain ⟨x, r, e9, h8⟩ := opI_some hs
    clear hs
    subst e9
    have hs := h8
    clear h8
    by_cases hn : (n : Nat) < ls.length
    case neg => rw [if_neg hn] at hs; cases hs
    rw [if_pos hn] at hs
    cases hs
    rw [hL.2.2.1] at hn
    exact lv_istore_n hx hb hdg rfl hL.has hn rfl (fun ls9 hl9 => kk kc ks H locs ls9 rfl rfl rfl hR hS (mLS_st1 (v := .int x) hL hl9))
  | istore n =>
    simp only [stp] at hs
    have hlen : 2 = len := by rcases hlen with h | h; (exact absurd (show (2 : Nat) = 0 from h) (by decide)); exact h
    subst hlen
    obtain ⟨x, r, e9, h8⟩ := opI_some hs
    clear hs
    subst e9
    have hs := h8
    clear h8
    by_cases hn : n < ls.length
    case neg => rw [if_neg hn] at hs; cases hs
    rw [if_pos hn] at hs
    cases hs
    rw [hL.2.2.1] at hn
    exact lv_istore hx hb hdg hL.has hn rfl (fun ls9 hl9 => kk kc ks H locs ls9 rfl rfl rfl hR hS (mLS_st1 (v := .int x) hL hl9))
  | astore_n n =>
    simp only [stp] at hs
    have hlen : 1 = len := by rcases hlen with h | h; (exact absurd (show (1 : Nat) = 0 from h) (by decide)); exact h
    subst hlen
    obtain ⟨x, r, e9, h8⟩ := opR_some hs
    clear hs
    subst e9
    have hs := h8
    clear h8
    by_cases hn : (n : Nat) < ls.length
    case neg => rw [if_neg hn] at hs; cases hs
    rw [if_pos hn] at hs
    cases hs
    rw [hL.2.2.1] at hn
    exact lv_astore_n hx hb hdg rfl hL.has hn rfl (fun ls9 hl9 => kk kc ks H locs ls9 rfl rfl rfl hR hS (mLS_st1 (v := .ref x) hL hl9))
  | astore n =>
    simp only [stp] at hs
    have hlen : 2 = len := by rcases hlen with h | h; (exact absurd (show (2 : Nat) = 0 from h) (by decide)); exact h
    subst hlen
    obtain ⟨x, r, e9, h8⟩ := opR_some hs
    clear hs
    subst e9
    have hs := h8
    clear h8
    by_cases hn : n < ls.length
    case neg => rw [if_neg hn] at hs; cases hs
    rw [if_pos hn] at hs
    cases hs
    rw [hL.2.2.1] at hn
    exact lv_astore hx hb hdg hL.has hn rfl (fun ls9 hl9 => kk kc ks H locs ls9 rfl rfl rfl hR hS (mLS_st1 (v := .ref x) hL hl9))
  | lstore_n n =>
    simp only [stp] at hs
    have hlen : 1 = len := by rcases hlen with h | h; (exact absurd (show (1 : Nat) = 0 from h) (by decide)); exact h
    subst hlen
    obtain ⟨x, r, e9, h8⟩ := opL_some hs
    clear hs
    subst e9
    have hs := h8
    clear h8
    by_cases hn : (n : Nat) + 1 < ls.length
    case neg => rw [if_neg hn] at hs; cases hs
    rw [if_pos hn] at hs
    cases hs
    rw [hL.2.2.1] at hn
    exact lv_lstore_n hx hb hdg rfl hL.has hn rfl (fun ls9 hl9 => kk kc ks H locs ls9 rfl rfl rfl hR hS (mLS_st2 (v := .long x) hL hl9))
  | lstore n =>
    simp only [stp] at hs
    have hlen : 2 = len := by rcases hlen with h | h; (exact absurd (show (2 : Nat) = 0 from h) (by decide)); exact h
    subst hlen
    obtain ⟨x, r, e9, h8⟩ := opL_some hs
    clear hs
    subst e9
    have hs := h8
    clear h8
    by_cases hn : n + 1 < ls.length
    case neg => rw [if_neg hn] at hs; cases hs
    rw [if_pos hn] at hs
    cases hs
    rw [hL.2.2.1] at hn
    exact lv_lstore hx hb hdg hL.has hn rfl (fun ls9 hl9 => kk kc ks H locs ls9 rfl rfl rfl hR hS (mLS_st2 (v := .long x) hL hl9))
  | iinc n z =>
    simp only [stp] at hs
    have hlen : 3 = len := by rcases hlen with h | h; (exact absurd (show (3 : Nat) = 0 from h) (by decide)); exact h
    subst hlen
    obtain ⟨x, hx1, hs⟩ := lvI_some hs
    by_cases hn : n < ls.length
    case neg => rw [if_neg hn] at hs; cases hs
    rw [if_pos hn] at hs
    cases hs
    rw [hL.2.2.1] at hn
    obtain ⟨k9, hk9⟩ := List.getElem?_of_mem (lvl_mem (b := b) (K := K) hx1)
    exact lv_iinc hx hb hdg hL.has hk9 rfl hn rfl (fun ls9 hl9 => kk kc ks H locs ls9 rfl rfl rfl hR hS (mLS_st1 (v := .int (x + Int32.ofInt z)) hL hl9))
  | iadd =>
    simp only [stp] at hs
    have hlen : 1 = len := by rcases hlen with h | h; (exact absurd (show (1 : Nat) = 0 from h) (by decide)); exact h
    subst hlen
    obtain ⟨x, y, r, e9, h8⟩ := opII_some hs
    clear hs
    subst e9
    have hs := h8
    clear h8
    cases hs
    exact lv_iadd hx hb hdg (kk kc ks H locs lsr rfl rfl rfl hR hS hL)
  | isub =>
    simp only [stp] at hs
    have hlen : 1 = len := by rcases hlen with h | h; (exact absurd (show (1 : Nat) = 0 from h) (by decide)); exact h
    subst hlen
    obtain ⟨x, y, r, e9, h8⟩ := opII_some hs
    clear hs
    subst e9
    have hs := h8
    clear h8
    cases hs
    exact lv_isub hx hb hdg (kk kc ks H locs lsr rfl rfl rfl hR hS hL)
  | imul =>
    simp only [stp] at hs
    have hlen : 1 = len := by rcases hlen with h | h; (exact absurd (show (1 : Nat) = 0 from h) (by decide)); exact h
    subst hlen
    obtain ⟨x, y, r, e9, h8⟩ := opII_some hs
    clear hs
    subst e9
    have hs := h8
    clear h8
    cases hs
    exact lv_imul hx hb hdg (kk kc ks H locs lsr rfl rfl rfl hR hS hL)
  | iand =>
    simp only [stp] at hs
    have hlen : 1 = len := by rcases hlen with h | h; (exact absurd (show (1 : Nat) = 0 from h) (by decide)); exact h
    subst hlen
    obtain ⟨x, y, r, e9, h8⟩ := opII_some hs
    clear hs
    subst e9
    have hs := h8
    clear h8
    cases hs
    exact lv_iand hx hb hdg (kk kc ks H locs lsr rfl rfl rfl hR hS hL)
  | ior =>
    simp only [stp] at hs
    have hlen : 1 = len := by rcases hlen with h | h; (exact absurd (show (1 : Nat) = 0 from h) (by decide)); exact h
    subst hlen
    obtain ⟨x, y, r, e9, h8⟩ := opII_some hs
    clear hs
    subst e9
    have hs := h8
    clear h8
    cases hs
    exact lv_ior hx hb hdg (kk kc ks H locs lsr rfl rfl rfl hR hS hL)
  | ixor =>
    simp only [stp] at hs
    have hlen : 1 = len := by rcases hlen with h | h; (exact absurd (show (1 : Nat) = 0 from h) (by decide)); exact h
    subst hlen
    obtain ⟨x, y, r, e9, h8⟩ := opII_some hs
    clear hs
    subst e9
    have hs := h8
    clear h8
    cases hs
    exact lv_ixor hx hb hdg (kk kc ks H locs lsr rfl rfl rfl hR hS hL)
  | ishl =>
    simp only [stp] at hs
    have hlen : 1 = len := by rcases hlen with h | h; (exact absurd (show (1 : Nat) = 0 from h) (by decide)); exact h
    subst hlen
    obtain ⟨x, y, r, e9, h8⟩ := opII_some hs
    clear hs
    subst e9
    have hs := h8
    clear h8
    cases hs
    exact lv_ishl hx hb hdg (kk kc ks H locs lsr rfl rfl rfl hR hS hL)
  | ishr =>
    simp only [stp] at hs
    have hlen : 1 = len := by rcases hlen with h | h; (exact absurd (show (1 : Nat) = 0 from h) (by decide)); exact h
    subst hlen
    obtain ⟨x, y, r, e9, h8⟩ := opII_some hs
    clear hs
    subst e9
    have hs := h8
    clear h8
    cases hs
    exact lv_ishr hx hb hdg (kk kc ks H locs lsr rfl rfl rfl hR hS hL)
  | idiv =>
    simp only [stp] at hs
    have hlen : 1 = len := by rcases hlen with h | h; (exact absurd (show (1 : Nat) = 0 from h) (by decide)); exact h
    subst hlen
    obtain ⟨x, y, r, e9, h8⟩ := opII_some hs
    clear hs
    subst e9
    have hs := h8
    clear h8
    by_cases hy : y = 0
    case pos => rw [if_pos hy] at hs; cases hs
    rw [if_neg hy] at hs
    cases hs
    exact lv_idiv hx hb hdg hy (kk kc ks H locs lsr rfl rfl rfl hR hS hL)
  | iushr =>
    simp only [stp] at hs
    have hlen : 1 = len := by rcases hlen with h | h; (exact absurd (show (1 : Nat) = 0 from h) (by decide)); exact h
    subst hlen
    obtain ⟨x, y, r, e9, h8⟩ := opII_some hs
    clear hs
    subst e9
    have hs := h8
    clear h8
    cases hs
    exact lv_iushr hx hb hdg rfl (kk kc ks H locs lsr rfl rfl rfl hR hS hL)
  | ineg =>
    simp only [stp] at hs
    have hlen : 1 = len := by rcases hlen with h | h; (exact absurd (show (1 : Nat) = 0 from h) (by decide)); exact h
    subst hlen
    obtain ⟨x, r, e9, h8⟩ := opI_some hs
    clear hs
    subst e9
    have hs := h8
    clear h8
    cases hs
    exact lv_ineg hx hb hdg (kk kc ks H locs lsr rfl rfl rfl hR hS hL)
  | ladd =>
    simp only [stp] at hs
    have hlen : 1 = len := by rcases hlen with h | h; (exact absurd (show (1 : Nat) = 0 from h) (by decide)); exact h
    subst hlen
    obtain ⟨x, y, r, e9, h8⟩ := opLL_some hs
    clear hs
    subst e9
    have hs := h8
    clear h8
    cases hs
    exact lv_ladd hx hb hdg (kk kc ks H locs lsr rfl rfl rfl hR hS hL)
  | lmul =>
    simp only [stp] at hs
    have hlen : 1 = len := by rcases hlen with h | h; (exact absurd (show (1 : Nat) = 0 from h) (by decide)); exact h
    subst hlen
    obtain ⟨x, y, r, e9, h8⟩ := opLL_some hs
    clear hs
    subst e9
    have hs := h8
    clear h8
    cases hs
    exact lv_lmul hx hb hdg (kk kc ks H locs lsr rfl rfl rfl hR hS hL)
  | land =>
    simp only [stp] at hs
    have hlen : 1 = len := by rcases hlen with h | h; (exact absurd (show (1 : Nat) = 0 from h) (by decide)); exact h
    subst hlen
    obtain ⟨x, y, r, e9, h8⟩ := opLL_some hs
    clear hs
    subst e9
    have hs := h8
    clear h8
    cases hs
    exact lv_land hx hb hdg (kk kc ks H locs lsr rfl rfl rfl hR hS hL)
  | lor =>
    simp only [stp] at hs
    have hlen : 1 = len := by rcases hlen with h | h; (exact absurd (show (1 : Nat) = 0 from h) (by decide)); exact h
    subst hlen
    obtain ⟨x, y, r, e9, h8⟩ := opLL_some hs
    clear hs
    subst e9
    have hs := h8
    clear h8
    cases hs
    exact lv_lor hx hb hdg (kk kc ks H locs lsr rfl rfl rfl hR hS hL)
  | ldiv =>
    simp only [stp] at hs
    have hlen : 1 = len := by rcases hlen with h | h; (exact absurd (show (1 : Nat) = 0 from h) (by decide)); exact h
    subst hlen
    obtain ⟨x, y, r, e9, h8⟩ := opLL_some hs
    clear hs
    subst e9
    have hs := h8
    clear h8
    by_cases hy : y = 0
    case pos => rw [if_pos hy] at hs; cases hs
    rw [if_neg hy] at hs
    cases hs
    exact lv_ldiv hx hb hdg hy (kk kc ks H locs lsr rfl rfl rfl hR hS hL)
  | lcmp =>
    simp only [stp] at hs
    have hlen : 1 = len := by rcases hlen with h | h; (exact absurd (show (1 : Nat) = 0 from h) (by decide)); exact h
    subst hlen
    obtain ⟨x, y, r, e9, h8⟩ := opLL_some hs
    clear hs
    subst e9
    have hs := h8
    clear h8
    cases hs
    exact W.lcmp hx hb hdg (kk kc ks H locs lsr rfl rfl rfl hR hS hL)
  | lshl =>
    simp only [stp] at hs
    have hlen : 1 = len := by rcases hlen with h | h; (exact absurd (show (1 : Nat) = 0 from h) (by decide)); exact h
    subst hlen
    obtain ⟨x, y, r, e9, h8⟩ := opLI_some hs
    clear hs
    subst e9
    have hs := h8
    clear h8
    cases hs
    exact lv_lshl hx hb hdg rfl (kk kc ks H locs lsr rfl rfl rfl hR hS hL)
  | lshr =>
    simp only [stp] at hs
    have hlen : 1 = len := by rcases hlen with h | h; (exact absurd (show (1 : Nat) = 0 from h) (by decide)); exact h
    subst hlen
    obtain ⟨x, y, r, e9, h8⟩ := opLI_some hs
    clear hs
    subst e9
    have hs := h8
    clear h8
    cases hs
    exact lv_lshr hx hb hdg rfl (kk kc ks H locs lsr rfl rfl rfl hR hS hL)
  | lushr =>
    simp only [stp] at hs
    have hlen : 1 = len := by rcases hlen with h | h; (exact absurd (show (1 : Nat) = 0 from h) (by decide)); exact h
    subst hlen
    obtain ⟨x, y, r, e9, h8⟩ := opLI_some hs
    clear hs
    subst e9
    have hs := h8
    clear h8
    cases hs
    exact lv_lushr hx hb hdg rfl (kk kc ks H locs lsr rfl rfl rfl hR hS hL)
  | i2l =>
    simp only [stp] at hs
    have hlen : 1 = len := by rcases hlen with h | h; (exact absurd (show (1 : Nat) = 0 from h) (by decide)); exact h
    subst hlen
    obtain ⟨x, r, e9, h8⟩ := opI_some hs
    clear hs
    subst e9
    have hs := h8
    clear h8
    cases hs
    exact lv_i2l hx hb hdg rfl (kk kc ks H locs lsr rfl rfl rfl hR hS hL)
  | l2i =>
    simp only [stp] at hs
    have hlen : 1 = len := by rcases hlen with h | h; (exact absurd (show (1 : Nat) = 0 from h) (by decide)); exact h
    subst hlen
    obtain ⟨x, r, e9, h8⟩ := opL_some hs
    clear hs
    subst e9
    have hs := h8
    clear h8
    cases hs
    exact lv_l2i hx hb hdg rfl (kk kc ks H locs lsr rfl rfl rfl hR hS hL)
  | pop =>
    simp only [stp] at hs
    have hlen : 1 = len := by rcases hlen with h | h; (exact absurd (show (1 : Nat) = 0 from h) (by decide)); exact h
    subst hlen
    obtain ⟨x, r, e9, h8⟩ := opI_some hs
    clear hs
    subst e9
    have hs := h8
    clear h8
    cases hs
    exact lv_pop hx hb hdg rfl (kk kc ks H locs lsr rfl rfl rfl hR hS hL)
  | dup =>
    simp only [stp] at hs
    have hlen : 1 = len := by rcases hlen with h | h; (exact absurd (show (1 : Nat) = 0 from h) (by decide)); exact h
    subst hlen
    obtain ⟨x, r, e9, h8⟩ := opV_some hs
    clear hs
    subst e9
    have hs := h8
    clear h8
    by_cases hy : x.category = 1
    case neg => rw [if_neg hy] at hs; cases hs
    rw [if_pos hy] at hs
    cases hs
    exact lv_dup hx hb hdg (by rw [mv_cat]; exact hy) (kk kc ks H locs lsr rfl rfl rfl hR hS hL)
  | dup2 =>
    simp only [stp] at hs
    have hlen : 1 = len := by rcases hlen with h | h; (exact absurd (show (1 : Nat) = 0 from h) (by decide)); exact h
    subst hlen
    obtain ⟨x, r, e9, h8⟩ := opV_some hs
    clear hs
    subst e9
    have hs := h8
    clear h8
    obtain ⟨y, r, e9, h8⟩ := opV_some hs
    clear hs
    subst e9
    have hs := h8
    clear h8
    by_cases hy : x.category = 1 ∧ y.category = 1
    case neg => rw [if_neg hy] at hs; cases hs
    rw [if_pos hy] at hs
    cases hs
    exact lv_dup2_11 hx hb hdg (by rw [mv_cat]; exact hy.1) (by rw [mv_cat]; exact hy.2) (kk kc ks H locs lsr rfl rfl rfl hR hS hL)
  | ifCond k off =>
    simp only [stp] at hs
    have hlen : 3 = len := by rcases hlen with h | h; (exact absurd (show (3 : Nat) = 0 from h) (by decide)); exact h
    subst hlen
    obtain ⟨x, r, e9, h8⟩ := opI_some hs
    clear hs
    subst e9
    have hs := h8
    clear h8
    simp only [oka, decide_eq_true_eq] at hok
    cases hs
    cases k with
    | eq => exact lv_if_eq hx hb hdg hok (fun z => by have h9 := kk kc ks H locs lsr rfl rfl rfl hR hS hL; rw [if_pos (show condI .eq x 0 from z)] at h9; exact h9) (fun z => by have h9 := kk kc ks H locs lsr rfl rfl rfl hR hS hL; rw [if_neg (show ¬ condI .eq x 0 from z)] at h9; exact h9)
    | ne => exact lv_if_ne hx hb hdg hok (fun z => by have h9 := kk kc ks H locs lsr rfl rfl rfl hR hS hL; rw [if_pos (show condI .ne x 0 from z)] at h9; exact h9) (fun z => by have h9 := kk kc ks H locs lsr rfl rfl rfl hR hS hL; rw [if_neg (show ¬ condI .ne x 0 from fun q => q z)] at h9; exact h9)
    | lt => exact lv_if_lt hx hb hdg hok (fun z => by have h9 := kk kc ks H locs lsr rfl rfl rfl hR hS hL; rw [if_pos (show condI .lt x 0 from z)] at h9; exact h9) (fun z => by have h9 := kk kc ks H locs lsr rfl rfl rfl hR hS hL; rw [if_neg (show ¬ condI .lt x 0 from z)] at h9; exact h9)
    | ge => exact lv_if_ge hx hb hdg hok (fun z => by have h9 := kk kc ks H locs lsr rfl rfl rfl hR hS hL; rw [if_pos (show condI .ge x 0 from z)] at h9; exact h9) (fun z => by have h9 := kk kc ks H locs lsr rfl rfl rfl hR hS hL; rw [if_neg (show ¬ condI .ge x 0 from z)] at h9; exact h9)
    | gt => exact lv_if_gt hx hb hdg hok (fun z => by have h9 := kk kc ks H locs lsr rfl rfl rfl hR hS hL; rw [if_pos (show condI .gt x 0 from z)] at h9; exact h9) (fun z => by have h9 := kk kc ks H locs lsr rfl rfl rfl hR hS hL; rw [if_neg (show ¬ condI .gt x 0 from z)] at h9; exact h9)
    | le => exact lv_if_le hx hb hdg hok (fun z => by have h9 := kk kc ks H locs lsr rfl rfl rfl hR hS hL; rw [if_pos (show condI .le x 0 from z)] at h9; exact h9) (fun z => by have h9 := kk kc ks H locs lsr rfl rfl rfl hR hS hL; rw [if_neg (show ¬ condI .le x 0 from z)] at h9; exact h9)
  | if_icmp k off =>
    simp only [stp] at hs
    have hlen : 3 = len := by rcases hlen with h | h; (exact absurd (show (3 : Nat) = 0 from h) (by decide)); exact h
    subst hlen
    obtain ⟨x, y, r, e9, h8⟩ := opII_some hs
    clear hs
    subst e9
    have hs := h8
    clear h8
    simp only [oka, decide_eq_true_eq] at hok
    cases hs
    cases k with
    | eq => exact lv_icmp_eq hx hb hdg hok (fun z => by have h9 := kk kc ks H locs lsr rfl rfl rfl hR hS hL; rw [if_pos (show condI .eq x y from z)] at h9; exact h9) (fun z => by have h9 := kk kc ks H locs lsr rfl rfl rfl hR hS hL; rw [if_neg (show ¬ condI .eq x y from z)] at h9; exact h9)
    | ne => exact lv_icmp_ne hx hb hdg hok (fun z => by have h9 := kk kc ks H locs lsr rfl rfl rfl hR hS hL; rw [if_pos (show condI .ne x y from z)] at h9; exact h9) (fun z => by have h9 := kk kc ks H locs lsr rfl rfl rfl hR hS hL; rw [if_neg (show ¬ condI .ne x y from fun q => q z)] at h9; exact h9)
    | lt => exact lv_icmp_lt hx hb hdg hok (fun z => by have h9 := kk kc ks H locs lsr rfl rfl rfl hR hS hL; rw [if_pos (show condI .lt x y from z)] at h9; exact h9) (fun z => by have h9 := kk kc ks H locs lsr rfl rfl rfl hR hS hL; rw [if_neg (show ¬ condI .lt x y from z)] at h9; exact h9)
    | ge => exact lv_icmp_ge hx hb hdg hok (fun z => by have h9 := kk kc ks H locs lsr rfl rfl rfl hR hS hL; rw [if_pos (show condI .ge x y from z)] at h9; exact h9) (fun z => by have h9 := kk kc ks H locs lsr rfl rfl rfl hR hS hL; rw [if_neg (show ¬ condI .ge x y from z)] at h9; exact h9)
    | gt => exact lv_icmp_gt hx hb hdg hok (fun z => by have h9 := kk kc ks H locs lsr rfl rfl rfl hR hS hL; rw [if_pos (show condI .gt x y from z)] at h9; exact h9) (fun z => by have h9 := kk kc ks H locs lsr rfl rfl rfl hR hS hL; rw [if_neg (show ¬ condI .gt x y from z)] at h9; exact h9)
    | le => exact lv_icmp_le hx hb hdg hok (fun z => by have h9 := kk kc ks H locs lsr rfl rfl rfl hR hS hL; rw [if_pos (show condI .le x y from z)] at h9; exact h9) (fun z => by have h9 := kk kc ks H locs lsr rfl rfl rfl hR hS hL; rw [if_neg (show ¬ condI .le x y from z)] at h9; exact h9)
  | goto off =>
    simp only [stp] at hs
    have hlen : 3 = len := by rcases hlen with h | h; (exact absurd (show (3 : Nat) = 0 from h) (by decide)); exact h
    subst hlen
    simp only [oka, decide_eq_true_eq] at hok
    cases hs
    exact lv_goto hx hb hdg hok (kk kc ks H locs lsr rfl rfl rfl hR hS hL)
  | tableswitch df lo hi off =>
    simp only [stp] at hs
    obtain ⟨x, r, e9, h8⟩ := opI_some hs
    clear hs
    subst e9
    have hs := h8
    clear h8
    simp only [oka, Bool.and_eq_true, decide_eq_true_eq] at hok
    cases hs
    have hsw := sw_ok (lo := lo) (hi := hi) (x := x) hok.1.1 hok.1.2
    have h9 := kk kc ks H locs lsr rfl rfl rfl hR hS hL
    by_cases hz : x.toInt < lo ∨ hi < x.toInt
    · have e9 : swT df lo hi off x = df := by unfold swT; rw [if_pos hz]
      rw [e9] at hsw h9
      exact lv_tableOut hx hb hdg hz hsw h9
    · have hlt : (x.toInt - lo).toNat < off.size := by omega
      have e9 : swT df lo hi off x = off[(x.toInt - lo).toNat] := by unfold swT; rw [if_neg hz, Array.getElem?_eq_getElem hlt]; rfl
      rw [e9] at hsw h9
      exact lv_tableIn hx hb hdg (by omega) (by omega) (Array.getElem?_eq_getElem hlt) hsw h9
  | ireturn =>
    simp only [stp] at hs
    obtain ⟨x, r, e9, h8⟩ := opI_some hs
    clear hs
    subst e9
    have hs := h8
    clear h8
    split at hs
    · split at hs <;> cases hs
    · cases hs
  | lreturn =>
    simp only [stp] at hs
    obtain ⟨x, r, e9, h8⟩ := opL_some hs
    clear hs
    subst e9
    have hs := h8
    clear h8
    split at hs
    · split at hs <;> cases hs
    · cases hs
  | return_ =>
    simp only [stp] at hs
    split at hs
    · split at hs <;> cases hs
    · cases hs
  | getfield i =>
    simp only [stp] at hs
    have hlen : 3 = len := by rcases hlen with h | h; (exact absurd (show (3 : Nat) = 0 from h) (by decide)); exact h
    subst hlen
    obtain ⟨t, r, e9, h8⟩ := opR_some hs
    clear hs
    subst e9
    have hs := h8
    clear h8
    obtain ⟨fs, v, ht, hv, hs⟩ := gfK_some hs
    simp only [oka, Bool.and_eq_true] at hok
    cases hs
    exact w_get C' X hR ht hv (Nat.le_of_ble_eq_true hok.2) (Nat.le_of_ble_eq_true hok.1.2) (in5_mem hok.1.1) hdg (kk kc ks H locs lsr rfl rfl rfl hR hS hL)
  | putfield i =>
    simp only [stp] at hs
    have hlen : 3 = len := by rcases hlen with h | h; (exact absurd (show (3 : Nat) = 0 from h) (by decide)); exact h
    subst hlen
    obtain ⟨v, r, e9, h8⟩ := opV_some hs
    clear hs
    subst e9
    have hs := h8
    clear h8
    obtain ⟨t, r, e9, h8⟩ := opR_some hs
    clear hs
    subst e9
    have hs := h8
    clear h8
    by_cases hv : okv d v
    case neg => rw [if_neg hv] at hs; cases hs
    rw [if_pos hv] at hs
    obtain ⟨fs, ht, hk, hs⟩ := pfK_some hs
    simp only [oka, Bool.and_eq_true, decide_eq_true_eq] at hok
    cases hs
    obtain ⟨⟨⟨⟨o1, o2⟩, o3⟩, o4⟩, o5⟩ := hok
    refine w_put (n := c) C' X hR hS ht hk (Nat.le_of_ble_eq_true o3) (Nat.le_of_ble_eq_true o2) o4 hv ?_ ?_ hdg (fun H1 locs1 h1 h2 => kk kc ks H1 locs1 lsr rfl rfl rfl h1 h2 hL)
    · have e9 : (if c = 1 then 1 else 0) = cond (Nat.beq c 1) 1 0 := by by_cases hc : c = 1; (subst hc; rfl); (rw [if_neg hc, nbeq_f hc]; rfl)
      rw [e9]
      exact in5_mem o1
    · by_cases hc : c = 2
      · subst hc
        simp only [Nat.beq_refl, cond_true, Bool.and_eq_true, Nat.beq_eq] at o5
        exact Or.inr ⟨rfl, o5.1.1, o5.1.2, o5.2⟩
      · rw [nbeq_f hc] at o5
        simp only [cond_false, Bool.not_eq_true'] at o5
        exact Or.inl ⟨hc, o5⟩
  | iaload =>
    simp only [stp] at hs
    have hlen : 1 = len := by rcases hlen with h | h; (exact absurd (show (1 : Nat) = 0 from h) (by decide)); exact h
    subst hlen
    obtain ⟨i, r, e9, h8⟩ := opI_some hs
    clear hs
    subst e9
    have hs := h8
    clear h8
    split at hs
    · obtain ⟨n, f, ht, hin, hs⟩ := alK_some hs
      cases hs
      have hat := (hR.2 _ _ ht).2
      exact va_iald hx hb X.1 (va_P_one hat) 0 0 rfl rfl hin hdg (kk kc ks H locs lsr rfl rfl rfl hR hS hL)
    · rename_i z r0
      by_cases hz : z = 9 ∧ ¬ (i < 0 ∨ σ.2.2.2.1 ≤ i.toNatClampNeg)
      case neg => rw [if_neg hz] at hs; cases hs
      rw [if_pos hz] at hs
      obtain ⟨rfl, hin⟩ := hz
      cases hs
      exact va_sld hx hb X.2.2.2.2.2.2.2.1 (Nat.lt_of_lt_of_le X.2.2.2.2.2.2.2.2.1 X.2.2.2.2.2.2.2.2.2) (Nat.not_le.mpr X.2.2.2.2.2.2.2.2.1) hS hin hdg (kk kc ks H locs lsr rfl rfl rfl hR hS hL)
    · cases hs
  | baload =>
    simp only [stp] at hs
    have hlen : 1 = len := by rcases hlen with h | h; (exact absurd (show (1 : Nat) = 0 from h) (by decide)); exact h
    subst hlen
    obtain ⟨i, r, e9, h8⟩ := opI_some hs
    clear hs
    subst e9
    have hs := h8
    clear h8
    obtain ⟨t, r, e9, h8⟩ := opR_some hs
    clear hs
    subst e9
    have hs := h8
    clear h8
    obtain ⟨n, f, ht, hin, hs⟩ := alK_some hs
    cases hs
    have hat := (hR.2 _ _ ht).2
    exact va_zald hx hb X.1 (va_P_one hat) 0 1 rfl rfl hin hdg (kk kc ks H locs lsr rfl rfl rfl hR hS hL)
  | iastore =>
    simp only [stp] at hs
    have hlen : 1 = len := by rcases hlen with h | h; (exact absurd (show (1 : Nat) = 0 from h) (by decide)); exact h
    subst hlen
    obtain ⟨i, v, r, e9, h8⟩ := opII_some hs
    clear hs
    subst e9
    have hs := h8
    clear h8
    obtain ⟨t, r, e9, h8⟩ := opR_some hs
    clear hs
    subst e9
    have hs := h8
    clear h8
    obtain ⟨n, f, ht, hin, hs⟩ := asK_some hs
    cases hs
    exact w_iast C' X hR hS ht hin hdg (fun H1 locs1 h1 h2 => kk kc ks H1 locs1 lsr rfl rfl rfl h1 h2 hL)
  | bastore =>
    simp only [stp] at hs
    have hlen : 1 = len := by rcases hlen with h | h; (exact absurd (show (1 : Nat) = 0 from h) (by decide)); exact h
    subst hlen
    obtain ⟨i, v, r, e9, h8⟩ := opII_some hs
    clear hs
    subst e9
    have hs := h8
    clear h8
    obtain ⟨t, r, e9, h8⟩ := opR_some hs
    clear hs
    subst e9
    have hs := h8
    clear h8
    by_cases hv : v = 0 ∨ v = 1
    case neg => rw [if_neg hv] at hs; cases hs
    rw [if_pos hv] at hs
    obtain ⟨n, f, ht, hin, hs⟩ := asK_some hs
    cases hs
    exact w_zast hv C' X hR hS ht hin hdg (fun H1 locs1 h1 h2 => kk kc ks H1 locs1 lsr rfl rfl rfl h1 h2 hL)
  | arraylength =>
    simp only [stp] at hs
    have hlen : 1 = len := by rcases hlen with h | h; (exact absurd (show (1 : Nat) = 0 from h) (by decide)); exact h
    subst hlen
    split at hs
    · obtain ⟨n, f, ht, hs⟩ := lnK_some hs
      cases hs
      have hat := (hR.2 _ _ ht).2
      exact va_alen hx hb X.1 (va_P_one hat) 0 0 rfl (ty := .int) rfl rfl hdg (kk kc ks H locs lsr rfl rfl rfl hR hS hL)
    · rename_i z r0
      by_cases hz : z = 9
      case neg => rw [if_neg hz] at hs; cases hs
      rw [if_pos hz] at hs
      subst hz
      cases hs
      exact va_slen hx hb X.2.2.2.2.2.2.2.1 (Nat.lt_of_lt_of_le X.2.2.2.2.2.2.2.2.1 X.2.2.2.2.2.2.2.2.2) (Nat.not_le.mpr X.2.2.2.2.2.2.2.2.1) hS hdg (kk kc ks H locs lsr rfl rfl rfl hR hS hL)
    · cases hs
  | new i =>
    simp only [stp] at hs
    have hlen : 3 = len := by rcases hlen with h | h; (exact absurd (show (3 : Nat) = 0 from h) (by decide)); exact h
    subst hlen
    simp only [oka, Bool.and_eq_true] at hok
    cases hs
    have h5 : kc + (σ.2.1 + 1) ≤ R.cells + σ.2.1 := hkc
    have h6 : ks + (σ.2.2.1 + (ctT a).length) ≤ R.slots + σ.2.2.1 := hks
    exact w_new C' X hR hS (Nat.le_of_ble_eq_true hok.2) (in3_mem hok.1) hdg (by omega) (by omega) (fun H1 locs1 h1 h2 => kk (kc + 1) (ks + (ctT a).length) H1 locs1 lsr (by show kc + 1 + σ.2.1 = kc + (σ.2.1 + 1); omega) (by show ks + (ctT a).length + σ.2.2.1 = ks + (σ.2.2.1 + (ctT a).length); omega) rfl h1 h2 hL)
  | newarray k =>
    simp only [stp] at hs
    have hlen : 2 = len := by rcases hlen with h | h; (exact absurd (show (2 : Nat) = 0 from h) (by decide)); exact h
    subst hlen
    obtain ⟨x, r, e9, h8⟩ := opI_some hs
    clear hs
    subst e9
    have hs := h8
    clear h8
    by_cases h0 : x < 0 ∨ 100000 < x.toNatClampNeg
    case pos => rw [if_pos h0] at hs; cases hs
    rw [if_neg h0] at hs
    simp only [oka, decide_eq_true_eq] at hok
    cases hs
    have h5 : kc + (σ.2.1 + 1) ≤ R.cells + σ.2.1 := hkc
    have h6 : ks + (σ.2.2.1 + x.toNatClampNeg) ≤ R.slots + σ.2.2.1 := hks
    exact w_newa C' X hR hS hok h0 hdg (by omega) (by omega) (fun H1 locs1 h1 h2 => kk (kc + 1) (ks + x.toNatClampNeg) H1 locs1 lsr (by show kc + 1 + σ.2.1 = kc + (σ.2.1 + 1); omega) (by show ks + x.toNatClampNeg + σ.2.2.1 = ks + (σ.2.2.1 + x.toNatClampNeg); omega) rfl h1 h2 hL)
  | invokevirtual i =>
    simp only [stp] at hs
    have hlen : 3 = len := by rcases hlen with h | h; (exact absurd (show (3 : Nat) = 0 from h) (by decide)); exact h
    subst hlen
    by_cases h7 : c = 7
    · subst h7
      rw [if_pos rfl] at hs
      split at hs
      case h_2 => cases hs
      rename_i z r
      by_cases hz : z.toNat < 4 ∧ mCat r ≤ 8
      case neg => rw [if_neg hz] at hs; cases hs
      rw [if_pos hz] at hs
      cases hs
      simp only [oka, Nat.beq_refl, cond_true, Bool.and_eq_true, Nat.beq_eq] at hok
      obtain ⟨⟨o1, o2⟩, o3⟩ := hok
      subst o2
      exact w_slen C' X o1 (Nat.le_of_ble_eq_true o3) hz.1 hz.2 hS hL (by omega) (by omega) hdg (fun locs1 hS => kk kc ks H locs1 lsr rfl rfl rfl hR hS hL)
    · rw [if_neg h7] at hs
      by_cases h8 : c = 8
      · subst h8
        rw [if_pos rfl] at hs
        split at hs
        case h_2 => cases hs
        rename_i i1 z r
        by_cases hz : z.toNat < 4 ∧ ¬ (i1 < 0 ∨ (sBy z.toNat).length ≤ i1.toNatClampNeg) ∧ mCat r ≤ 8
        case neg => rw [if_neg hz] at hs; cases hs
        rw [if_pos hz] at hs
        cases hs
        simp only [oka, nbeq_f (show (8 : Nat) ≠ 7 by decide), Nat.beq_refl, cond_true, cond_false, Bool.and_eq_true, Nat.beq_eq] at hok
        obtain ⟨⟨o1, o2⟩, o3⟩ := hok
        subst o2
        exact w_schr C' X o1 (Nat.le_of_ble_eq_true o3) hz.1 hz.2.1 hz.2.2 hS hL (by omega) (by omega) hdg (fun locs1 hS => kk kc ks H locs1 lsr rfl rfl rfl hR hS hL)
      · rw [if_neg h8] at hs
        split at hs
        case h_2 => cases hs
        obtain ⟨fs, -, hs⟩ := isC_some hs
        simp only [mcall] at hs
        split at hs <;> cases hs
  | invokespecial i =>
    simp only [stp] at hs
    have hlen : 3 = len := by rcases hlen with h | h; (exact absurd (show (3 : Nat) = 0 from h) (by decide)); exact h
    subst hlen
    by_cases h7 : c = 9
    · subst h7
      rw [if_pos rfl] at hs
      obtain ⟨x, r, e9, h8⟩ := opR_some hs
      clear hs
      subst e9
      have hs := h8
      clear h8
      by_cases hz : mCat r ≤ 8
      case neg => rw [if_neg hz] at hs; cases hs
      rw [if_pos hz] at hs
      cases hs
      simp only [oka, Nat.beq_refl, cond_true, Bool.and_eq_true] at hok
      have hd1 := Nat.le_of_ble_eq_true hok.2
      exact W.objInit (g := F0 m pc lsr _) hx hb hown (hts _ (tt_of (obi_ok (mCl M, i) (in2_mem hok.1)) rfl)) (hts _ (tt_of ob_inst rfl)) (hts _ (tt_of ob_code rfl)) rfl hsz.symm rfl hdg (by omega) (by show 2 * 0 + _ + 12 ≤ _; rw [mCat_map]; omega) (kk kc ks H locs lsr rfl rfl rfl hR hS hL)
    · rw [if_neg h7] at hs
      split at hs
      · simp only [mcall] at hs
        split at hs <;> cases hs
      · cases hs
  | invokestatic i =>
    simp only [stp] at hs
    have hlen : 3 = len := by rcases hlen with h | h; (exact absurd (show (3 : Nat) = 0 from h) (by decide)); exact h
    subst hlen
    have hmt : ∀ {w : Jvm.Cond}, w ∈ tables_1 → goodWord w = true → w.before args s = true := fun h g => hts _ (tt_of h g)
    by_cases h4 : c = 4
    · subst h4
      rw [if_pos rfl] at hs
      obtain ⟨x, y, r, e9, h8⟩ := opII_some hs
      clear hs
      subst e9
      have hs := h8
      clear h8
      by_cases hz : mCat r ≤ 8
      case neg => rw [if_neg hz] at hs; cases hs
      rw [if_pos hz] at hs
      cases hs
      simp only [oka, show Nat.ble 4 4 = true from rfl, cond_true, Bool.and_eq_true] at hok
      have hd1 := Nat.le_of_ble_eq_true hok.2
      exact va_mmax hx hb hsz hown (hmt (ma_ok (mCl M, i, 4) (in3_mem hok.1)) rfl) (hmt mt_max.1 rfl) (hmt mt_max.2.1 rfl) (hmt mt_max.2.2 rfl) (by omega) (by rw [mCat_map]; omega) (by have : σ.2.1 = σ.2.1 := rfl; have := hkc; omega) (by have := hks; omega) hdg (kk kc ks H locs lsr rfl rfl rfl hR hS hL)
    · rw [if_neg h4] at hs
      by_cases h5 : c = 5
      · subst h5
        rw [if_pos rfl] at hs
        obtain ⟨x, y, r, e9, h8⟩ := opII_some hs
        clear hs
        subst e9
        have hs := h8
        clear h8
        by_cases hz : mCat r ≤ 8
        case neg => rw [if_neg hz] at hs; cases hs
        rw [if_pos hz] at hs
        cases hs
        simp only [oka, show Nat.ble 4 5 = true from rfl, cond_true, Bool.and_eq_true] at hok
        have hd1 := Nat.le_of_ble_eq_true hok.2
        exact va_mmin hx hb hsz hown (hmt (ma_ok (mCl M, i, 5) (in3_mem hok.1)) rfl) (hmt mt_min.1 rfl) (hmt mt_min.2.1 rfl) (hmt mt_min.2.2 rfl) (by omega) (by rw [mCat_map]; omega) (by have : σ.2.1 = σ.2.1 := rfl; have := hkc; omega) (by have := hks; omega) hdg (kk kc ks H locs lsr rfl rfl rfl hR hS hL)
      · rw [if_neg h5] at hs
        by_cases h6 : c = 6
        · subst h6
          rw [if_pos rfl] at hs
          obtain ⟨x, r, e9, h8⟩ := opI_some hs
          clear hs
          subst e9
          have hs := h8
          clear h8
          by_cases hz : mCat r ≤ 8
          case neg => rw [if_neg hz] at hs; cases hs
          rw [if_pos hz] at hs
          cases hs
          simp only [oka, show Nat.ble 4 6 = true from rfl, cond_true, Bool.and_eq_true] at hok
          have hd1 := Nat.le_of_ble_eq_true hok.2
          exact va_mabs hx hb hsz hown (hmt (ma_ok (mCl M, i, 6) (in3_mem hok.1)) rfl) (hmt mt_abs.1 rfl) (hmt mt_abs.2.1 rfl) (hmt mt_abs.2.2 rfl) (by omega) (by rw [mCat_map]; omega) (by have : σ.2.1 = σ.2.1 := rfl; have := hkc; omega) (by have := hks; omega) hdg (kk kc ks H locs lsr rfl rfl rfl hR hS hL)
        · rw [if_neg h6] at hs
          split at hs
          · simp only [mcall] at hs
            split at hs <;> cases hs
          · cases hs
  | _ =>
    simp only [stp] at hs
    cases hs
end GO
