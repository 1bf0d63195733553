/-! A run with fuel, over a table of methods; its limit; its equations. -/
/-- the machine's tables: a method's code, its return type, its locals; the fields' tags of a class -/
abbrev mT : Type := (Nat → Nat → Option mI) × (Nat → Option FieldType) × (Nat → Nat) × (Nat → List Nat)
noncomputable def run (X : mT) : Nat → Nat → Nat → mL → List Value → mS → Option mR
  | 0, _, _, _, _, _ => none
  | f + 1, M, pc, ls, st, σ => match X.1 M pc with
    | none => none
    | some q => match stp X.2.2.2 (X.2.1 M) q pc ls st σ with
      | none => none
      | some (.inl (pc', ls', st', σ')) => run X f M pc' ls' st' σ'
      | some (.inr (.inl r)) => some r
      | some (.inr (.inr (M', as, σ', pc', ls', st'))) => if (mSl as).length ≤ X.2.2.1 M' then match run X f M' 0 (mEnt as (X.2.2.1 M')) [] σ' with
        | none => none
        | some (v, σ'') => run X f M pc' ls' (v.toList ++ st') σ''
        else none
theorem run_mono (X : mT) : ∀ (f M pc : Nat) (ls : mL) (st : List Value) (σ : mS) (r : mR), run X f M pc ls st σ = some r → run X (f + 1) M pc ls st σ = some r := by
  intro f
  induction f with
  | zero => intro M pc ls st σ r h; simp [run] at h
  | succ f ih =>
    intro M pc ls st σ r h
    rw [run] at h ⊢
    cases hq : X.1 M pc with
    | none => rw [hq] at h; cases h
    | some q =>
      rw [hq] at h
      simp only at h ⊢
      cases hs : stp X.2.2.2 (X.2.1 M) q pc ls st σ with
      | none => rw [hs] at h; cases h
      | some a =>
        rw [hs] at h
        rcases a with ⟨pc', ls', st', σ'⟩ | r' | ⟨M', as, σ', pc', ls', st'⟩
        · exact ih _ _ _ _ _ _ h
        · exact h
        · simp only at h ⊢
          by_cases hl : (mSl as).length ≤ X.2.2.1 M'
          case neg => rw [if_neg hl] at h; cases h
          rw [if_pos hl] at h ⊢
          cases h1 : run X f M' 0 (mEnt as (X.2.2.1 M')) [] σ' with
          | none => rw [h1] at h; cases h
          | some z =>
            rw [h1] at h
            rw [ih _ _ _ _ _ _ h1]
            obtain ⟨v, σ''⟩ := z
            exact ih _ _ _ _ _ _ h
theorem run_le (X : mT) {f g M pc : Nat} {ls : mL} {st : List Value} {σ : mS} {r : mR} (h : run X f M pc ls st σ = some r) (hg : f ≤ g) : run X g M pc ls st σ = some r := by
  obtain ⟨k, rfl⟩ := Nat.le.dest hg
  induction k with
  | zero => exact h
  | succ k ih => exact run_mono X _ _ _ _ _ _ _ (ih (Nat.le_add_right _ _))
theorem run_det (X : mT) {f g M pc : Nat} {ls : mL} {st : List Value} {σ : mS} {r r' : mR} (h : run X f M pc ls st σ = some r) (h' : run X g M pc ls st σ = some r') : r = r' := by
  have h1 := run_le X h (Nat.le_max_left f g)
  have h2 := run_le X h' (Nat.le_max_right f g)
  exact Option.some.inj (h1.symm.trans h2)
theorem ev_ex (X : mT) (M pc : Nat) (ls : mL) (st : List Value) (σ : mS) : ∃ o : Option mR, ∀ r, o = some r ↔ ∃ f, run X f M pc ls st σ = some r := by
  by_cases h : ∃ r f, run X f M pc ls st σ = some r
  · obtain ⟨r, f, hf⟩ := h
    refine ⟨some r, fun r' => ⟨fun e => ⟨f, by rw [← Option.some.inj e]; exact hf⟩, fun ⟨g, hg⟩ => by rw [run_det X hf hg]⟩⟩
  · exact ⟨none, fun r' => ⟨fun e => (by cases e), fun ⟨g, hg⟩ => absurd ⟨r', g, hg⟩ h⟩⟩
noncomputable def ev0 (X : mT) (M pc : Nat) (ls : mL) (st : List Value) (σ : mS) : Option mR := Classical.choose (ev_ex X M pc ls st σ)
theorem ev_run (X : mT) {M pc : Nat} {ls : mL} {st : List Value} {σ : mS} (r : mR) : ev0 X M pc ls st σ = some r ↔ ∃ f, run X f M pc ls st σ = some r := Classical.choose_spec (ev_ex X M pc ls st σ) r
theorem ev0_go (X : mT) {M pc pc' : Nat} {ls ls' : mL} {st st' : List Value} {σ σ' : mS} {q : mI} (hq : X.1 M pc = some q) (hs : stp X.2.2.2 (X.2.1 M) q pc ls st σ = some (.inl (pc', ls', st', σ'))) : ev0 X M pc ls st σ = ev0 X M pc' ls' st' σ' := by
  refine Option.ext fun r => ?_
  rw [ev_run, ev_run]
  constructor
  · rintro ⟨f, h⟩
    cases f with
    | zero => simp [run] at h
    | succ f =>
      rw [run, hq] at h
      simp only [hs] at h
      exact ⟨f, h⟩
  · rintro ⟨f, h⟩
    refine ⟨f + 1, ?_⟩
    rw [run, hq]
    simp only [hs]
    exact h
theorem ev0_ret (X : mT) {M pc : Nat} {ls : mL} {st : List Value} {σ : mS} {q : mI} {z : mR} (hq : X.1 M pc = some q) (hs : stp X.2.2.2 (X.2.1 M) q pc ls st σ = some (.inr (.inl z))) : ev0 X M pc ls st σ = some z := by
  rw [ev_run]
  refine ⟨1, ?_⟩
  rw [run, hq]
  simp only [hs]
theorem ev0_call (X : mT) {M pc M' pc' : Nat} {ls ls' : mL} {st st' as : List Value} {σ σ' : mS} {q : mI} (hq : X.1 M pc = some q) (hs : stp X.2.2.2 (X.2.1 M) q pc ls st σ = some (.inr (.inr (M', as, σ', pc', ls', st')))) (hl : (mSl as).length ≤ X.2.2.1 M') :
    ev0 X M pc ls st σ = (ev0 X M' 0 (mEnt as (X.2.2.1 M')) [] σ').bind fun z => ev0 X M pc' ls' (z.1.toList ++ st') z.2 := by
  refine Option.ext fun r => ?_
  rw [ev_run, Option.bind_eq_some_iff]
  constructor
  · rintro ⟨f, h⟩
    cases f with
    | zero => simp [run] at h
    | succ f =>
      rw [run, hq] at h
      simp only [hs] at h
      rw [if_pos hl] at h
      cases h1 : run X f M' 0 (mEnt as (X.2.2.1 M')) [] σ' with
      | none => rw [h1] at h; cases h
      | some z =>
        rw [h1] at h
        exact ⟨z, (ev_run X z).mpr ⟨f, h1⟩, (ev_run X r).mpr ⟨f, h⟩⟩
  · rintro ⟨z, h1, h2⟩
    obtain ⟨f, hf⟩ := (ev_run X z).mp h1
    obtain ⟨g, hg⟩ := (ev_run X r).mp h2
    refine ⟨max f g + 1, ?_⟩
    rw [run, hq]
    simp only [hs]
    rw [if_pos hl]
    rw [run_le X hf (Nat.le_max_left f g)]
    exact run_le X hg (Nat.le_max_right f g)
theorem mnew_n (σ : mS) (e : mE) (k : Nat) : σ.2.1 ≤ (mnew σ e k).2.1 ∧ σ.2.2.1 ≤ (mnew σ e k).2.2.1 := ⟨Nat.le_succ _, Nat.le_add_right _ _⟩
