/-! NUMBERS by their bits: sets of states and of doings. (The rows bi_.. up to bi_sshr began as kit/laws/BITS.) -/
def bi (x : Int32) (i : Nat) : Bool := x.toBitVec.getLsbD i
theorem bi_ext {x y : Int32} (h : ∀ i, i < 32 → bi x i = bi y i) : x = y := Int32.toBitVec_inj.mp (BitVec.eq_of_getLsbD_eq (fun i hi => h i hi))
theorem bi_or (x y : Int32) (i : Nat) : bi (x ||| y) i = (bi x i || bi y i) := by unfold bi; rw [Int32.toBitVec_or, BitVec.getLsbD_or]
theorem bi_and (x y : Int32) (i : Nat) : bi (x &&& y) i = (bi x i && bi y i) := by unfold bi; rw [Int32.toBitVec_and, BitVec.getLsbD_and]
theorem bi_xor (x y : Int32) (i : Nat) : bi (x ^^^ y) i = (bi x i ^^ bi y i) := by unfold bi; rw [Int32.toBitVec_xor, BitVec.getLsbD_xor]
theorem bi_big {x : Int32} {i : Nat} (h : 32 ≤ i) : bi x i = false := BitVec.getLsbD_of_ge _ _ h
theorem bi_65535 (i : Nat) : bi 65535 i = decide (i < 16) := by
  rcases Nat.lt_or_ge i 32 with h | h
  · exact (by decide +kernel : ∀ i, i < 32 → bi 65535 i = decide (i < 16)) i h
  · rw [bi_big h, decide_eq_false (by omega)]
theorem bi_m1 : ∀ i, i < 32 → bi (-1) i = true := by decide +kernel
theorem bi_0 (i : Nat) : bi 0 i = false := BitVec.getLsbD_zero
theorem bi_1 : ∀ i, i < 32 → bi 1 i = decide (i = 0) := by decide +kernel
theorem bi_sl : ∀ n, n < 32 → ((nI n &&& 31).toBitVec.smod 32).toNat = n := by decide +kernel
theorem bi_shl (n : Nat) (hn : n < 32) (x : Int32) {i : Nat} (hi : i < 32) : bi (x <<< (nI n &&& 31)) i = (decide (n ≤ i) && bi x (i - n)) := by
  unfold bi
  rw [Int32.toBitVec_shiftLeft]
  show (x.toBitVec <<< ((nI n &&& 31).toBitVec.smod 32).toNat).getLsbD i = _
  rw [bi_sl n hn, BitVec.getLsbD_shiftLeft]
  rcases Nat.lt_or_ge i n with h | h
  · simp [h, Nat.not_le.mpr h]
  · simp [hi, h, Nat.not_lt.mpr h]
theorem bi_sshr (n : Nat) (hn : n < 32) (x : Int32) {i : Nat} (hi : i < 32) : bi (x >>> (nI n &&& 31)) i = if n + i < 32 then bi x (n + i) else bi x 31 := by
  unfold bi
  rw [Int32.toBitVec_shiftRight]
  show (x.toBitVec.sshiftRight ((nI n &&& 31).toBitVec.smod 32).toNat).getLsbD i = _
  rw [bi_sl n hn, BitVec.getLsbD_sshiftRight, BitVec.msb_eq_getLsbD_last]
  simp [hi]
/-- the number that has one bit -/
def bit (t : Nat) : Int32 := (1 : Int32) <<< (nI t &&& 31)
theorem bit_def (t : Nat) : (1 : Int32) <<< (nI t &&& 31) = bit t := rfl
theorem bi_bit {t i : Nat} (ht : t < 32) (hi : i < 32) : bi (bit t) i = decide (i = t) := by
  unfold bit
  rw [bi_shl t ht 1 hi]
  by_cases h : t ≤ i
  · rw [bi_1 _ (by omega), decide_eq_true h, Bool.true_and]
    exact decide_eq_decide.2 (by omega)
  · rw [decide_eq_false h, Bool.false_and, decide_eq_false (by omega)]
theorem and1_0 (y : Int32) : (y &&& 1 = 0) ↔ bi y 0 = false := by
  constructor
  · intro h
    have := congrArg (fun z => bi z 0) h
    simp only [bi_and, bi_0] at this
    rw [show bi 1 0 = true from by decide, Bool.and_true] at this
    exact this
  · intro h
    refine bi_ext fun i hi => ?_
    rw [bi_and, bi_0, bi_1 i hi]
    by_cases h0 : i = 0
    · subst h0
      rw [h, Bool.false_and]
    · rw [decide_eq_false h0, Bool.and_false]
theorem and1_1 (y : Int32) : (y &&& 1 = 1) ↔ bi y 0 = true := by
  constructor
  · intro h
    have := congrArg (fun z => bi z 0) h
    simp only [bi_and] at this
    rw [show bi 1 0 = true from by decide, Bool.and_true] at this
    exact this
  · intro h
    refine bi_ext fun i hi => ?_
    rw [bi_and, bi_1 i hi]
    by_cases h0 : i = 0
    · subst h0
      rw [h, Bool.true_and]
    · rw [decide_eq_false h0, Bool.and_false]
theorem bi_shr0 {x : Int32} {d : Nat} (hd : d < 31) : bi (x >>> (nI d &&& 31)) 0 = bi x d := by
  rw [bi_sshr d (by omega) x (by omega), if_pos (by omega), Nat.add_zero]
theorem shr_0 {x : Int32} {d : Nat} (hd : d < 31) : ((x >>> (nI d &&& 31)) &&& 1 = 0) = (bi x d = false) := by
  rw [propext (and1_0 _), bi_shr0 hd]
theorem shr_1 {x : Int32} {d : Nat} (hd : d < 31) : ((x >>> (nI d &&& 31)) &&& 1 = 1) = (bi x d = true) := by
  rw [propext (and1_1 _), bi_shr0 hd]
theorem btB_bi {x : Int32} {d : Nat} (hd : d < 31) : btB x d = bi x d := by
  unfold btB
  by_cases h : bi x d = true
  · rw [h, decide_eq_true]
    rw [shr_0 hd, h]
    decide
  · have h' := Bool.eq_false_iff.2 h
    rw [h', decide_eq_false]
    rw [shr_0 hd, h']
    exact fun g => g rfl
theorem R_bit {x : Int32} {d : Nat} (hd : d < 31) (σ : mS) : evM 84 [.int x, .int (nI d)] σ = some (some (.int (if bi x d then 1 else 0)), σ) := by
  rw [R_hasBit hd, btB_bi hd]
/-- no bit from the sixteenth on -/
def S16 (x : Int32) : Prop := ∀ i, 16 ≤ i → i < 32 → bi x i = false
theorem ext16 {x y : Int32} (hx : S16 x) (hy : S16 y) (h : ∀ i, i < 16 → bi x i = bi y i) : x = y := bi_ext fun i hi => by
  by_cases h1 : i < 16
  · exact h i h1
  · rw [hx i (by omega) hi, hy i (by omega) hi]
/-- whether some number below n -/
def anyF (P : Nat → Bool) : Nat → Bool
  | 0 => false
  | n + 1 => anyF P n || P n
theorem anyF_t {P : Nat → Bool} : ∀ {n : Nat}, anyF P n = true ↔ ∃ j, j < n ∧ P j = true
  | 0 => ⟨fun h => absurd h Bool.false_ne_true, fun ⟨j, h, _⟩ => absurd h (Nat.not_lt_zero j)⟩
  | n + 1 => by
    rw [anyF, Bool.or_eq_true, anyF_t]
    constructor
    · rintro (⟨j, h1, h2⟩ | h)
      · exact ⟨j, by omega, h2⟩
      · exact ⟨n, by omega, h⟩
    · rintro ⟨j, h1, h2⟩
      by_cases h : j = n
      · subst h
        exact Or.inr h2
      · exact Or.inl ⟨j, by omega, h2⟩
theorem anyF_f {P : Nat → Bool} {n : Nat} : anyF P n = false ↔ ∀ j, j < n → P j = false := by
  rw [← Bool.not_eq_true, anyF_t]
  constructor
  · intro h j hj
    exact Bool.eq_false_iff.2 fun g => h ⟨j, hj, g⟩
  · rintro h ⟨j, hj, g⟩
    rw [h j hj] at g
    exact Bool.false_ne_true g
theorem anyF_congr {P Q : Nat → Bool} : ∀ {n : Nat}, (∀ j, j < n → P j = Q j) → anyF P n = anyF Q n
  | 0, _ => rfl
  | n + 1, h => by rw [anyF, anyF, anyF_congr (fun j hj => h j (by omega)), h n (by omega)]
/-- bits laid on, those below n that P has -/
def orF (P : Nat → Bool) : Nat → Int32 → Int32
  | 0, x => x
  | n + 1, x => if P n = true then orF P n x ||| bit n else orF P n x
theorem bi_orF {P : Nat → Bool} {x : Int32} {i : Nat} (hi : i < 32) : ∀ {n : Nat}, n ≤ 32 → bi (orF P n x) i = (bi x i || (decide (i < n) && P i))
  | 0, _ => by rw [orF, decide_eq_false (by omega), Bool.false_and, Bool.or_false]
  | n + 1, hn => by
    have ih := bi_orF hi (n := n) (P := P) (x := x) (by omega)
    rw [orF]
    by_cases h : P n = true
    · rw [if_pos h, bi_or, ih, bi_bit (by omega) hi, Bool.or_assoc]
      congr 1
      by_cases h1 : i = n
      · subst h1
        rw [h, decide_eq_true (p := i = i) rfl, decide_eq_true (p := i < i + 1) (by omega), Bool.or_true, Bool.true_and]
      · rw [decide_eq_false h1, Bool.or_false, show decide (i < n + 1) = decide (i < n) from decide_eq_decide.2 (by omega)]
    · rw [if_neg h, ih]
      congr 1
      by_cases h1 : i = n
      · subst h1
        rw [Bool.eq_false_iff.2 h, Bool.and_false, Bool.and_false]
      · rw [show decide (i < n + 1) = decide (i < n) from decide_eq_decide.2 (by omega)]
theorem orF_congr {P Q : Nat → Bool} {x : Int32} : ∀ {n : Nat}, (∀ j, j < n → P j = Q j) → orF P n x = orF Q n x
  | 0, _ => rfl
  | n + 1, h => by rw [orF, orF, orF_congr (fun j hj => h j (by omega)), h n (by omega)]
theorem orF_0 {P : Nat → Bool} {n : Nat} (hn : n ≤ 32) : (orF P n 0 = 0) ↔ ∀ j, j < n → P j = false := by
  constructor
  · intro h j hj
    have := congrArg (fun z => bi z j) h
    simp only [bi_0] at this
    rw [bi_orF (by omega) hn, bi_0, Bool.false_or, decide_eq_true hj, Bool.true_and] at this
    exact this
  · intro h
    refine bi_ext fun i hi => ?_
    rw [bi_orF hi hn, bi_0, Bool.false_or]
    by_cases h1 : i < n
    · rw [h i h1, Bool.and_false]
    · rw [decide_eq_false h1, Bool.false_and]
theorem orF_s16 {P : Nat → Bool} {n : Nat} {x : Int32} (hn : n ≤ 16) (h : S16 x) : S16 (orF P n x) := fun i h1 h2 => by
  rw [bi_orF h2 (by omega), h i h1 h2, decide_eq_false (by omega), Bool.false_and, Bool.or_false]
theorem s16_0 : S16 0 := fun i _ _ => bi_0 i
theorem s16_or {x y : Int32} (hx : S16 x) (hy : S16 y) : S16 (x ||| y) := fun i h1 h2 => by rw [bi_or, hx i h1 h2, hy i h1 h2]; rfl
theorem s16_and {x y : Int32} (hx : S16 x) : S16 (x &&& y) := fun i h1 h2 => by rw [bi_and, hx i h1 h2, Bool.false_and]
theorem s16_all : S16 65535 := fun i h1 _ => by rw [bi_65535, decide_eq_false (by omega)]
theorem s16_bit {t : Nat} (ht : t < 16) : S16 (bit t) := fun i h1 h2 => by rw [bi_bit (by omega) h2, decide_eq_false (by omega)]
theorem bi_not {x : Int32} {i : Nat} (hi : i < 32) : bi (x ^^^ -1) i = !bi x i := by
  rw [bi_xor, bi_m1 i hi, Bool.xor_true]
/-- one set within another -/
theorem sub_iff {x y : Int32} : (x &&& (y ^^^ -1) = 0) ↔ ∀ i, i < 32 → bi x i = true → bi y i = true := by
  constructor
  · intro h i hi hx
    have := congrArg (fun z => bi z i) h
    simp only [bi_0] at this
    rw [bi_and, hx, Bool.true_and, bi_not hi] at this
    cases hy : bi y i
    · rw [hy] at this
      exact absurd this (by decide)
    · rfl
  · intro h
    refine bi_ext fun i hi => ?_
    rw [bi_and, bi_0, bi_not hi]
    cases hx : bi x i
    · rfl
    · rw [h i hi hx]
      rfl
/-- the set of the first n numbers of a row -/
def setI (f : Nat → Nat) : Nat → Int32
  | 0 => 0
  | n + 1 => setI f n ||| bit (f n)
theorem bi_setI {f : Nat → Nat} {i : Nat} (hi : i < 32) : ∀ {n : Nat}, (∀ j, j < n → f j < 16) → bi (setI f n) i = anyF (fun j => decide (i = f j)) n
  | 0, _ => bi_0 i
  | n + 1, h => by
    have := h n (by omega)
    rw [setI, bi_or, bi_setI hi (fun j hj => h j (by omega)), bi_bit (by omega) hi, anyF]
theorem setI_s16 {f : Nat → Nat} : ∀ {n : Nat}, (∀ j, j < n → f j < 16) → S16 (setI f n)
  | 0, _ => s16_0
  | n + 1, h => s16_or (setI_s16 fun j hj => h j (by omega)) (s16_bit (h n (by omega)))
theorem setI_sub {f : Nat → Nat} {n : Nat} {y : Int32} (hf : ∀ j, j < n → f j < 16) : (setI f n &&& (y ^^^ -1) = 0) ↔ ∀ j, j < n → bi y (f j) = true := by
  rw [sub_iff]
  constructor
  · intro h j hj
    have := hf j hj
    refine h (f j) (by omega) ?_
    rw [bi_setI (by omega) hf]
    exact anyF_t.2 ⟨j, hj, decide_eq_true rfl⟩
  · intro h i hi hx
    rw [bi_setI hi hf] at hx
    obtain ⟨j, hj, he⟩ := anyF_t.1 hx
    rw [of_decide_eq_true he]
    exact h j hj
theorem le0_nI {n : Nat} (h : n < 2147483648) : (nI n ≤ 0) = (n = 0) := propext ⟨fun g => by
  have := (nI_leI (b := 0) h (by decide)).1 g
  omega, fun g => by rw [g]; decide⟩
theorem lt0_nI {n : Nat} (h : n < 2147483648) : ((0 : Int32) < nI n) = (0 < n) := propext (nI_ltI (a := 0) (by decide) h)
theorem mix_same {f2 f : Nat → Int32} {k : Nat} (h : f2 k = mix k f2 f k) : mix (k + 1) f2 f = mix k f2 f := by
  funext i
  unfold mix
  by_cases h1 : i < k
  · rw [if_pos h1, if_pos (by omega)]
  · rw [if_neg h1]
    by_cases h2 : i = k
    · subst h2
      rw [if_pos (by omega), h, mix, if_neg (by omega)]
    · rw [if_neg (by omega)]
theorem mix_mix {n : Nat} {f2 f1 f : Nat → Int32} : mix n f2 (mix n f1 f) = mix n f2 f := by
  funext i
  unfold mix
  by_cases h : i < n
  · rw [if_pos h, if_pos h]
  · rw [if_neg h, if_neg h, if_neg h]
theorem mix_lt {n i : Nat} {f2 f : Nat → Int32} (h : i < n) : mix n f2 f i = f2 i := if_pos h
theorem mix_ge {n i : Nat} {f2 f : Nat → Int32} (h : ¬ i < n) : mix n f2 f i = f i := if_neg h
theorem mix_0 {f2 f : Nat → Int32} : mix 0 f2 f = f := funext fun i => if_neg (by omega)
