/-! THE TEXT as numbers: rows of digits and letters; tokens by their places. -/
def runE (P : Nat → Bool) : Nat → Nat → Nat
  | 0, i => i
  | f + 1, i => if P i = true then runE P f (i + 1) else i
def rn (P : Nat → Bool) (n i : Nat) : Nat := runE P (n - i) i
theorem runE_ge {P : Nat → Bool} : ∀ f i, i ≤ runE P f i
  | 0, i => Nat.le_refl _
  | f + 1, i => by
    rw [runE]
    split
    · have := runE_ge (P := P) f (i + 1)
      omega
    · exact Nat.le_refl _
theorem runE_le {P : Nat → Bool} : ∀ f i, runE P f i ≤ i + f
  | 0, i => Nat.le_refl _
  | f + 1, i => by
    rw [runE]
    split
    · have := runE_le (P := P) f (i + 1)
      omega
    · omega
theorem runE_in {P : Nat → Bool} : ∀ f i j, i ≤ j → j < runE P f i → P j = true
  | 0, i, j, h1, h2 => by
    rw [runE] at h2
    omega
  | f + 1, i, j, h1, h2 => by
    rw [runE] at h2
    split at h2
    · rename_i h
      by_cases e : j = i
      · rw [e]
        exact h
      · exact runE_in f (i + 1) j (by omega) h2
    · omega
theorem runE_out {P : Nat → Bool} {n : Nat} (hP : ∀ j, n ≤ j → P j = false) : ∀ f i, n ≤ i + f → P (runE P f i) = false
  | 0, i, h => hP i h
  | f + 1, i, h => by
    rw [runE]
    split
    · exact runE_out hP f (i + 1) (by omega)
    · rename_i g
      exact Bool.eq_false_iff.2 g
theorem rn_ge {P : Nat → Bool} {n i : Nat} : i ≤ rn P n i := runE_ge _ _
theorem rn_le {P : Nat → Bool} {n i : Nat} (h : i ≤ n) : rn P n i ≤ n := by
  have := runE_le (P := P) (n - i) i
  unfold rn
  omega
theorem rn_in {P : Nat → Bool} {n i j : Nat} (h1 : i ≤ j) (h2 : j < rn P n i) : P j = true := runE_in _ _ _ h1 h2
theorem rn_out {P : Nat → Bool} {n i : Nat} (hP : ∀ j, n ≤ j → P j = false) : P (rn P n i) = false := runE_out hP _ _ (by omega)
theorem rn_f {P : Nat → Bool} {n i : Nat} (h : P i = false) : rn P n i = i := by
  unfold rn
  cases n - i with
  | zero => rfl
  | succ f => rw [runE, if_neg (by rw [h]; exact Bool.false_ne_true)]
theorem rn_t {P : Nat → Bool} {n i : Nat} (h : P i = true) (hi : i < n) : rn P n i = rn P n (i + 1) := by
  unfold rn
  obtain ⟨f, hf⟩ : ∃ f, n - i = f + 1 := ⟨n - i - 1, by omega⟩
  rw [hf, runE, if_pos h, show n - (i + 1) = f by omega]
theorem rn_end {P : Nat → Bool} {n : Nat} : rn P n n = n := by
  unfold rn
  rw [Nat.sub_self]
  rfl
def dg (t : Nat → Nat) (n i : Nat) : Bool := decide (i < n ∧ 48 ≤ t i ∧ t i ≤ 57)
def lr (t : Nat → Nat) (n i : Nat) : Bool := decide (i < n ∧ 97 ≤ t i ∧ t i ≤ 122)
def sp (t : Nat → Nat) (n i : Nat) : Bool := decide (i < n ∧ t i = 32)
theorem dg_t {t : Nat → Nat} {n i : Nat} : dg t n i = true ↔ i < n ∧ 48 ≤ t i ∧ t i ≤ 57 := decide_eq_true_iff
theorem lr_t {t : Nat → Nat} {n i : Nat} : lr t n i = true ↔ i < n ∧ 97 ≤ t i ∧ t i ≤ 122 := decide_eq_true_iff
theorem sp_t {t : Nat → Nat} {n i : Nat} : sp t n i = true ↔ i < n ∧ t i = 32 := decide_eq_true_iff
theorem dg_n {t : Nat → Nat} {n : Nat} : ∀ j, n ≤ j → dg t n j = false := fun j h => decide_eq_false (by omega)
theorem lr_n {t : Nat → Nat} {n : Nat} : ∀ j, n ≤ j → lr t n j = false := fun j h => decide_eq_false (by omega)
theorem sp_n {t : Nat → Nat} {n : Nat} : ∀ j, n ≤ j → sp t n j = false := fun j h => decide_eq_false (by omega)
theorem dg_lr {t : Nat → Nat} {n i : Nat} (h : dg t n i = true) : lr t n i = false := decide_eq_false (by have := dg_t.1 h; omega)
/-- the end of the row that begins at a place -/
def ed (t : Nat → Nat) (n p : Nat) : Nat := if p < n then (if dg t n p = true then rn (dg t n) n p else if lr t n p = true then rn (lr t n) n p else p + 1) else p
def sk (t : Nat → Nat) (n p : Nat) : Nat := rn (sp t n) n p
def nx (t : Nat → Nat) (n p : Nat) : Nat := sk t n (ed t n p)
theorem ed_le {t : Nat → Nat} {n p : Nat} (h : p ≤ n) : ed t n p ≤ n := by
  unfold ed
  split
  · split
    · exact rn_le h
    · split
      · exact rn_le h
      · omega
  · exact h
theorem ed_gt {t : Nat → Nat} {n p : Nat} (h : p < n) : p < ed t n p := by
  unfold ed
  rw [if_pos h]
  split
  · rename_i g
    rw [rn_t g h]
    have := rn_ge (P := dg t n) (n := n) (i := p + 1)
    omega
  · split
    · rename_i g
      rw [rn_t g h]
      have := rn_ge (P := lr t n) (n := n) (i := p + 1)
      omega
    · omega
theorem ed_n {t : Nat → Nat} {n : Nat} : ed t n n = n := by
  unfold ed
  rw [if_neg (by omega)]
theorem sk_le {t : Nat → Nat} {n p : Nat} (h : p ≤ n) : sk t n p ≤ n := rn_le h
theorem sk_ge {t : Nat → Nat} {n p : Nat} : p ≤ sk t n p := rn_ge
theorem sk_sp {t : Nat → Nat} {n p : Nat} : sp t n (sk t n p) = false := rn_out sp_n
theorem sk_id {t : Nat → Nat} {n p : Nat} (h : sp t n p = false) : sk t n p = p := rn_f h
theorem sk_n {t : Nat → Nat} {n : Nat} : sk t n n = n := rn_end
theorem nx_n {t : Nat → Nat} {n : Nat} : nx t n n = n := by
  unfold nx
  rw [ed_n, sk_n]
theorem nx_le {t : Nat → Nat} {n p : Nat} (h : p ≤ n) : nx t n p ≤ n := sk_le (ed_le h)
theorem nx_gt {t : Nat → Nat} {n p : Nat} (h : p < n) : p < nx t n p := by
  have h1 := ed_gt (t := t) h
  have h2 := sk_ge (t := t) (n := n) (p := ed t n p)
  unfold nx
  omega
theorem nx_sp {t : Nat → Nat} {n p : Nat} : sp t n (nx t n p) = false := sk_sp
def mvl (t : Nat → Nat) (p : Nat) : Nat → Nat
  | 0 => 0
  | k + 1 => if k < 3 then 10 * mvl t p k + t (p + k) - 48 else 1000
def cvl (t : Nat → Nat) (p : Nat) : Nat → Nat
  | 0 => 0
  | k + 1 => min (cvl t p k * 10 + t (p + k) - 48) 16
theorem cvl_le {t : Nat → Nat} {p : Nat} : ∀ k, cvl t p k ≤ 16
  | 0 => by rw [cvl]; omega
  | k + 1 => by rw [cvl]; exact Nat.min_le_right _ _
theorem mvl_le {t : Nat → Nat} {p k : Nat} (h : ∀ j, j < k → 48 ≤ t (p + j) ∧ t (p + j) ≤ 57) : mvl t p k ≤ 1000 := by
  rcases (show k = 0 ∨ k = 1 ∨ k = 2 ∨ k = 3 ∨ ∃ m, k = m + 4 from by
    rcases Nat.lt_or_ge k 4 with h | h
    · omega
    · exact Or.inr (Or.inr (Or.inr (Or.inr ⟨k - 4, by omega⟩)))) with e | e | e | e | ⟨m, e⟩
  · rw [e, mvl]; omega
  · have h0 := h 0 (by omega)
    rw [e, mvl, mvl, if_pos (by omega)]; omega
  · have h0 := h 0 (by omega)
    have h1 := h 1 (by omega)
    rw [e, mvl, mvl, mvl, if_pos (by omega), if_pos (by omega)]; omega
  · have h0 := h 0 (by omega)
    have h1 := h 1 (by omega)
    have h2 := h 2 (by omega)
    rw [e, mvl, mvl, mvl, mvl, if_pos (by omega), if_pos (by omega), if_pos (by omega)]; omega
  · rw [e, mvl, if_neg (by omega)]
    exact Nat.le_refl _
theorem vl_one {t : Nat → Nat} {p : Nat} (h : 48 ≤ t p ∧ t p ≤ 57) : cvl t p 1 = mvl t p 1 ∧ mvl t p 1 < 16 := by
  simp only [cvl, mvl, Nat.add_zero, if_pos (show 0 < 3 by omega)]
  omega
theorem vl_min {t : Nat → Nat} {p : Nat} (h0 : t p ≠ 48) : ∀ k, (∀ j, j < k + 1 → 48 ≤ t (p + j) ∧ t (p + j) ≤ 57) → cvl t p (k + 1) = min (mvl t p (k + 1)) 16 ∧ 1 ≤ mvl t p (k + 1) ∧ (1 ≤ k → 10 ≤ mvl t p (k + 1))
  | 0, h => by
    have h1 := h 0 (by omega)
    rw [Nat.add_zero] at h1
    have h2 := vl_one h1
    have h3 : mvl t p 1 = 10 * 0 + t p - 48 := if_pos (show 0 < 3 by omega)
    have h4 : cvl t p 1 = min (mvl t p 1) 16 := by omega
    exact ⟨h4, by show 1 ≤ mvl t p 1; rw [h3]; omega, fun h => absurd h (by omega)⟩
  | k + 1, h => by
    obtain ⟨a, b, c⟩ := vl_min h0 k (fun j hj => h j (by omega))
    have h1 := h (k + 1) (by omega)
    rw [cvl, mvl, a]
    by_cases hk : k + 1 < 3
    · rw [if_pos hk]
      omega
    · rw [if_neg hk]
      have := c (by omega)
      omega
/-- class and model take the same for a number -/
theorem vl_eq {t : Nat → Nat} {p k : Nat} (hk : 0 < k) (h : ∀ j, j < k → 48 ≤ t (p + j) ∧ t (p + j) ≤ 57) (h1 : ¬ (t p = 48 ∧ 1 < k)) : (16 ≤ cvl t p k ↔ 15 < mvl t p k) ∧ (¬ 15 < mvl t p k → cvl t p k = mvl t p k) := by
  by_cases h0 : t p = 48
  · have : k = 1 := by omega
    subst this
    have := vl_one (t := t) (p := p) (h 0 (by omega))
    omega
  · obtain ⟨m, rfl⟩ : ∃ m, k = m + 1 := ⟨k - 1, by omega⟩
    have := (vl_min h0 m h).1
    omega
/-- the letters from p on in one number, five of them at most -/
def pkl (t : Nat → Nat) (p : Nat) : Nat → Nat
  | 0 => 0
  | k + 1 => if k < 5 then 256 * pkl t p k + t (p + k) else pkl t p k
abbrev isNever (t : Nat → Nat) (p e : Nat) : Prop := e = p + 5 ∧ t p = 110 ∧ t (p + 1) = 101 ∧ t (p + 2) = 118 ∧ t (p + 3) = 101 ∧ t (p + 4) = 114
abbrev isGoal (t : Nat → Nat) (p e : Nat) : Prop := e = p + 4 ∧ t p = 103 ∧ t (p + 1) = 111 ∧ t (p + 2) = 97 ∧ t (p + 3) = 108
abbrev isRest (t : Nat → Nat) (p e : Nat) : Prop := e = p + 4 ∧ t p = 114 ∧ t (p + 1) = 101 ∧ t (p + 2) = 115 ∧ t (p + 3) = 116
abbrev isBar (t : Nat → Nat) (p e : Nat) : Prop := e = p + 3 ∧ t p = 98 ∧ t (p + 1) = 97 ∧ t (p + 2) = 114
theorem pkl_lt {t : Nat → Nat} {p : Nat} (h : ∀ j, t (p + j) < 256) : ∀ k, pkl t p k < 256 ^ (min k 5)
  | 0 => by rw [pkl]; decide
  | k + 1 => by
    have ih := pkl_lt h k
    have := h k
    rw [pkl]
    by_cases hk : k < 5
    · rw [if_pos hk, show min (k + 1) 5 = k + 1 by omega, Nat.pow_succ]
      rw [show min k 5 = k by omega] at ih
      omega
    · rw [if_neg hk]
      rw [show min (k + 1) 5 = 5 by omega]
      rw [show min k 5 = 5 by omega] at ih
      exact ih
theorem dig2 {x a y b : Nat} (ha : a < 256) (hb : b < 256) : (256 * x + a = 256 * y + b) ↔ (x = y ∧ a = b) := by omega
theorem pkl_is {t : Nat → Nat} {p k : Nat} (hk : 0 < k) (hk5 : k ≤ 5) (h : ∀ j, j < k → 97 ≤ t (p + j) ∧ t (p + j) ≤ 122) :
    (pkl t p k = 474148660594 ↔ isNever t p (p + k)) ∧ (pkl t p k = 1735352684 ↔ isGoal t p (p + k)) ∧ (pkl t p k = 1919251316 ↔ isRest t p (p + k)) ∧ (pkl t p k = 6447474 ↔ isBar t p (p + k)) := by
  unfold isNever isGoal isRest isBar
  rcases (show k = 1 ∨ k = 2 ∨ k = 3 ∨ k = 4 ∨ k = 5 by omega) with rfl | rfl | rfl | rfl | rfl
  · have h0 := h 0 (by omega)
    simp only [pkl, Nat.add_zero, if_pos (show 0 < 5 by omega)] at h0 ⊢
    omega
  · have h0 := h 0 (by omega)
    have h1 := h 1 (by omega)
    simp only [pkl, Nat.add_zero, if_pos (show 0 < 5 by omega), if_pos (show 1 < 5 by omega)] at h0 ⊢
    omega
  · have h0 := h 0 (by omega)
    have h1 := h 1 (by omega)
    have h2 := h 2 (by omega)
    simp only [pkl, Nat.add_zero, if_pos (show 0 < 5 by omega), if_pos (show 1 < 5 by omega), if_pos (show 2 < 5 by omega)] at h0 ⊢
    refine ⟨?_, ?_, ?_, ?_⟩
    · omega
    · omega
    · omega
    · rw [show 6447474 = 256 * (256 * (256 * 0 + 98) + 97) + 114 from rfl, dig2 (by omega) (by omega), dig2 (by omega) (by omega), dig2 (by omega) (by omega)]
      exact ⟨fun h => ⟨trivial, by omega⟩, fun h => by have := h.2; omega⟩
  · have h0 := h 0 (by omega)
    have h1 := h 1 (by omega)
    have h2 := h 2 (by omega)
    have h3 := h 3 (by omega)
    simp only [pkl, Nat.add_zero, if_pos (show 0 < 5 by omega), if_pos (show 1 < 5 by omega), if_pos (show 2 < 5 by omega), if_pos (show 3 < 5 by omega)] at h0 ⊢
    refine ⟨?_, ?_, ?_, ?_⟩
    · omega
    · rw [show 1735352684 = 256 * (256 * (256 * (256 * 0 + 103) + 111) + 97) + 108 from rfl, dig2 (by omega) (by omega), dig2 (by omega) (by omega), dig2 (by omega) (by omega), dig2 (by omega) (by omega)]
      exact ⟨fun h => ⟨trivial, by omega⟩, fun h => by have := h.2; omega⟩
    · rw [show 1919251316 = 256 * (256 * (256 * (256 * 0 + 114) + 101) + 115) + 116 from rfl, dig2 (by omega) (by omega), dig2 (by omega) (by omega), dig2 (by omega) (by omega), dig2 (by omega) (by omega)]
      exact ⟨fun h => ⟨trivial, by omega⟩, fun h => by have := h.2; omega⟩
    · omega
  · have h0 := h 0 (by omega)
    have h1 := h 1 (by omega)
    have h2 := h 2 (by omega)
    have h3 := h 3 (by omega)
    have h4 := h 4 (by omega)
    simp only [pkl, Nat.add_zero, if_pos (show 0 < 5 by omega), if_pos (show 1 < 5 by omega), if_pos (show 2 < 5 by omega), if_pos (show 3 < 5 by omega), if_pos (show 4 < 5 by omega)] at h0 ⊢
    refine ⟨?_, ?_, ?_, ?_⟩
    · rw [show 474148660594 = 256 * (256 * (256 * (256 * (256 * 0 + 110) + 101) + 118) + 101) + 114 from by omega, dig2 (by omega) (by omega), dig2 (by omega) (by omega), dig2 (by omega) (by omega), dig2 (by omega) (by omega), dig2 (by omega) (by omega)]
      exact ⟨fun h => ⟨trivial, by omega⟩, fun h => by have := h.2; omega⟩
    · omega
    · omega
    · omega
/-- what sort of word -/
def wS (t : Nat → Nat) (p e : Nat) : Nat := if e = p + 1 ∧ t p ≤ 104 then 2 else if isNever t p e then 3 else if isGoal t p e then 4 else if isRest t p e then 5 else if isBar t p e then 6 else 9
/-- the sort of the token at a place -/
def tS (t : Nat → Nat) (n p : Nat) : Nat := if p < n then (if dg t n p = true then (if (t p = 48 ∧ p + 1 < ed t n p) ∨ 15 < mvl t p (ed t n p - p) then 9 else 1) else if lr t n p = true then wS t p (ed t n p) else if t p = 62 then 7 else if t p = 59 then 8 else 9) else 0
def tV (t : Nat → Nat) (n p : Nat) : Nat := if dg t n p = true then mvl t p (ed t n p - p) else t p - 97
def posE (t : Nat → Nat) (n : Nat) : Nat → Nat
  | 0 => sk t n 0
  | i + 1 => nx t n (posE t n i)
theorem posE_le {t : Nat → Nat} {n : Nat} : ∀ i, posE t n i ≤ n
  | 0 => sk_le (Nat.zero_le _)
  | i + 1 => nx_le (posE_le i)
theorem posE_sp {t : Nat → Nat} {n : Nat} : ∀ i, sp t n (posE t n i) = false
  | 0 => sk_sp
  | i + 1 => nx_sp
theorem posE_ge {t : Nat → Nat} {n : Nat} : ∀ i, posE t n i = n ∨ i ≤ posE t n i
  | 0 => Or.inr (Nat.zero_le _)
  | i + 1 => by
    have h := posE_le (t := t) (n := n) i
    rw [posE]
    rcases posE_ge (t := t) (n := n) i with g | g
    · rw [g, nx_n]
      exact Or.inl rfl
    · by_cases e : posE t n i = n
      · rw [e, nx_n]
        exact Or.inl rfl
      · have := nx_gt (t := t) (n := n) (p := posE t n i) (by omega)
        exact Or.inr (by omega)
theorem tS_le {t : Nat → Nat} {n p : Nat} : tS t n p ≤ 9 := by
  unfold tS wS
  repeat' split
  all_goals omega
theorem tS_n {t : Nat → Nat} {n : Nat} : tS t n n = 0 := by
  unfold tS
  rw [if_neg (by omega)]
theorem tS_0 {t : Nat → Nat} {n p : Nat} (h : p < n) : tS t n p ≠ 0 := by
  unfold tS wS
  rw [if_pos h]
  repeat' split
  all_goals omega
/-- what a sort 1 or 2 has for its value -/
theorem tV_1 {t : Nat → Nat} {n p : Nat} (h : tS t n p = 1) : tV t n p < 16 := by
  unfold tS wS at h
  unfold tV
  repeat' split at h
  all_goals first | omega | skip
  all_goals rw [if_pos (by assumption)]; omega
theorem tV_2 {t : Nat → Nat} {n p : Nat} (h : tS t n p = 2) : tV t n p < 8 := by
  unfold tS wS at h
  unfold tV
  repeat' split at h
  all_goals first | omega | skip
  all_goals
    rename_i h1 h2 h3 h4
    have := lr_t.1 h3
    rw [if_neg h2]
    omega
