/-! THE WORLD as numbers: ways k = 8 state + doing; lc k lots of it, lt k i each. What follows of it: broken, safe, doom, sure. -/
def WF (lc : Nat → Nat) (lt : Nat → Nat → Nat) : Prop := ∀ k, k < 128 → lc k ≤ 4 ∧ ∀ i, i < lc k → lt k i < 16
/-- the class's world at w -/
def CW (A : Nat → Nat → Int32) (w : Nat) (lc : Nat → Nat) (lt : Nat → Nat → Nat) : Prop := ∀ k, k < 128 → A (w + 1) k = nI (lc k) ∧ A (w + 2) k = setI (lt k) (lc k) ∧ ∀ i, i < lc k → A (w + 3) (k * 4 + i) = nI (lt k i)
/-- the model's -/
def MW (A : Nat → Nat → Int32) (lc : Nat → Nat) (lt : Nat → Nat → Nat) : Prop := ∀ k, k < 128 → A 62 (5 * k) = nI (lc k) ∧ ∀ i, i < lc k → A 62 (5 * k + 1 + i) = nI (lt k i)
theorem CW_up {A : Nat → Nat → Int32} {w k : Nat} {f : Nat → Int32} {lc : Nat → Nat} {lt : Nat → Nat → Nat} (h : k ≠ w + 1 ∧ k ≠ w + 2 ∧ k ≠ w + 3) (hC : CW A w lc lt) : CW (up A k f) w lc lt := fun j hj => by
  rw [up_ne (by omega), up_ne (by omega), up_ne (by omega)]
  exact hC j hj
theorem MW_up {A : Nat → Nat → Int32} {k : Nat} {f : Nat → Int32} {lc : Nat → Nat} {lt : Nat → Nat → Nat} (h : k ≠ 62) (hC : MW A lc lt) : MW (up A k f) lc lt := fun j hj => by
  rw [up_ne (by omega)]
  exact hC j hj
/-- the way k has all lots within S -/
def sty (lc : Nat → Nat) (lt : Nat → Nat → Nat) (S : Int32) (k : Nat) : Bool := decide (0 < lc k) && decide (setI (lt k) (lc k) &&& (S ^^^ -1) = 0)
def brk (lc : Nat → Nat) (rest never : Int32) : Int32 := orF (fun s => !bi rest s && !anyF (fun d => decide (0 < lc (s * 8 + d))) 8) 16 never
def thn (lc : Nat → Nat) (lt : Nat → Nat → Nat) (rest S : Int32) : Int32 := orF (fun s => bi S s && (bi rest s || anyF (fun d => sty lc lt S (s * 8 + d)) 8)) 16 0
def itr {α : Type} (f : α → α) : Nat → α → α
  | 0, x => x
  | n + 1, x => itr f n (f x)
def saf (lc : Nat → Nat) (lt : Nat → Nat → Nat) (rest never : Int32) : Int32 := itr (thn lc lt rest) 16 (65535 &&& (brk lc rest never ^^^ -1))
/-- doom after r rounds -/
def dm (lc : Nat → Nat) (lt : Nat → Nat → Nat) (br sf : Int32) : Nat → Nat → Int32
  | 0, s => if bi br s = true then 0 else -9
  | r + 1, s => if bi sf s = false ∧ dm lc lt br sf r s = -9 ∧ (∀ d, d < 8 → lc (s * 8 + d) = 0 ∨ ∃ i, i < lc (s * 8 + d) ∧ ¬ dm lc lt br sf r (lt (s * 8 + d) i) = -9) then nI (r + 1) else dm lc lt br sf r s
/-- sure of a set after r rounds -/
def sr (lc : Nat → Nat) (lt : Nat → Nat → Nat) (sf set : Int32) : Nat → Nat → Int32
  | 0, s => if bi sf s = true ∧ bi set s = true then 0 else -9
  | r + 1, s => if bi sf s = true ∧ sr lc lt sf set r s = -9 ∧ (∃ d, d < 8 ∧ 0 < lc (s * 8 + d) ∧ ∀ i, i < lc (s * 8 + d) → ¬ sr lc lt sf set r (lt (s * 8 + d) i) = -9) then nI (r + 1) else sr lc lt sf set r s
theorem dm_val {lc : Nat → Nat} {lt : Nat → Nat → Nat} {br sf : Int32} : ∀ (r s : Nat), dm lc lt br sf r s = -9 ∨ ∃ k, k ≤ r ∧ dm lc lt br sf r s = nI k
  | 0, s => by
    rw [dm]
    split
    · exact Or.inr ⟨0, by omega, rfl⟩
    · exact Or.inl rfl
  | r + 1, s => by
    rw [dm]
    split
    · exact Or.inr ⟨r + 1, by omega, rfl⟩
    · rcases dm_val r s with h | ⟨k, hk, h⟩
      · exact Or.inl h
      · exact Or.inr ⟨k, by omega, h⟩
theorem sr_val {lc : Nat → Nat} {lt : Nat → Nat → Nat} {sf set : Int32} : ∀ (r s : Nat), sr lc lt sf set r s = -9 ∨ ∃ k, k ≤ r ∧ sr lc lt sf set r s = nI k
  | 0, s => by
    rw [sr]
    split
    · exact Or.inr ⟨0, by omega, rfl⟩
    · exact Or.inl rfl
  | r + 1, s => by
    rw [sr]
    split
    · exact Or.inr ⟨r + 1, by omega, rfl⟩
    · rcases sr_val r s with h | ⟨k, hk, h⟩
      · exact Or.inl h
      · exact Or.inr ⟨k, by omega, h⟩
/-- sure is of safe states alone -/
theorem sr_safe {lc : Nat → Nat} {lt : Nat → Nat → Nat} {sf set : Int32} : ∀ (r s : Nat), ¬ sr lc lt sf set r s = -9 → bi sf s = true
  | 0, s, h => by
    rw [sr] at h
    split at h
    · rename_i g
      exact g.1
    · exact absurd rfl h
  | r + 1, s, h => by
    rw [sr] at h
    split at h
    · rename_i g
      exact g.1
    · exact sr_safe r s h
theorem sty_t {lc : Nat → Nat} {lt : Nat → Nat → Nat} (hW : WF lc lt) {S : Int32} {k : Nat} (hk : k < 128) : sty lc lt S k = true ↔ 0 < lc k ∧ ∀ i, i < lc k → bi S (lt k i) = true := by
  unfold sty
  rw [Bool.and_eq_true, decide_eq_true_eq, decide_eq_true_eq, setI_sub (hW k hk).2]
theorem sty_all {lc : Nat → Nat} {lt : Nat → Nat → Nat} (hW : WF lc lt) {k : Nat} (hk : k < 128) : sty lc lt 65535 k = decide (0 < lc k) := by
  by_cases h : 0 < lc k
  · rw [decide_eq_true h]
    exact (sty_t hW hk).2 ⟨h, fun i hi => by rw [bi_65535]; exact decide_eq_true ((hW k hk).2 i hi)⟩
  · rw [decide_eq_false h]
    unfold sty
    rw [decide_eq_false h, Bool.false_and]
theorem orF_t {P : Nat → Bool} {n : Nat} {x : Int32} (h : P n = true) : orF P (n + 1) x = orF P n x ||| bit n := by rw [orF, if_pos h]
theorem orF_f {P : Nat → Bool} {n : Nat} {x : Int32} (h : P n = false) : orF P (n + 1) x = orF P n x := by rw [orF, if_neg (by rw [h]; exact Bool.false_ne_true)]
theorem orF_or {P : Nat → Bool} {x : Int32} : ∀ n, orF P n x = x ||| orF P n 0
  | 0 => by rw [orF, orF, Int32.or_zero]
  | n + 1 => by
    have ih := orF_or (P := P) (x := x) n
    by_cases h : P n = true
    · rw [orF_t h, orF_t h, ih, Int32.or_assoc]
    · rw [orF_f (Bool.eq_false_iff.2 h), orF_f (Bool.eq_false_iff.2 h), ih]
theorem brk_s16 {lc : Nat → Nat} {rest never : Int32} (h : S16 never) : S16 (brk lc rest never) := orF_s16 (by omega) h
theorem thn_s16 {lc : Nat → Nat} {lt : Nat → Nat → Nat} {rest S : Int32} : S16 (thn lc lt rest S) := orF_s16 (by omega) s16_0
theorem itr_s16 {f : Int32 → Int32} (hf : ∀ x, S16 (f x)) : ∀ n x, S16 x → S16 (itr f n x)
  | 0, x, h => h
  | n + 1, x, h => itr_s16 hf n (f x) (hf x)
theorem saf_s16 {lc : Nat → Nat} {lt : Nat → Nat → Nat} {rest never : Int32} : S16 (saf lc lt rest never) := itr_s16 (fun _ => thn_s16) 16 _ (s16_and s16_all)
theorem rm_4 (m : Nat) : nI m * (4 : Int32) = nI (m * 4) := nI_mulN m 4
theorem rm_8 (m : Nat) : nI m * (8 : Int32) = nI (m * 8) := nI_mulN m 8
