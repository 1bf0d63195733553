/-! THE EQUATIONS of the mini machine's limit, an instruction each. -/
noncomputable def ev (M pc : Nat) (ls : mL) (st : List Value) (σ : mS) : Option mR := ev0 XX M pc ls st σ
noncomputable def evM (M : Nat) (as : List Value) (σ : mS) : Option mR := ev M 0 (mEnt as (mLc M)) [] σ
noncomputable def evK (r : Option mR) (K : Value → mS → Option mR) : Option mR := match r with
  | some (some v, σ) => K v σ
  | _ => none
noncomputable def evV (r : Option mR) (K : mS → Option mR) : Option mR := match r with
  | some (none, σ) => K σ
  | _ => none
theorem ev0_none (X : mT) {M pc : Nat} {ls : mL} {st : List Value} {σ : mS} {q : mI} (hq : X.1 M pc = some q) (hs : stp X.2.2.2 (X.2.1 M) q pc ls st σ = none) : ev0 X M pc ls st σ = none := by
  cases hz : ev0 X M pc ls st σ with
  | none => rfl
  | some r =>
    obtain ⟨f, hf⟩ := (ev_run X r).mp hz
    cases f with
    | zero => simp [run] at hf
    | succ f =>
      rw [run, hq] at hf
      simp only [hs] at hf
      cases hf
noncomputable def evO (M : Nat) (o : Option mA) : Option mR := match o with
  | none => none
  | some (.inl (pc', ls', st', σ')) => ev M pc' ls' st' σ'
  | some (.inr (.inl r)) => some r
  | some (.inr (.inr (M', as, σ', pc', ls', st'))) => if (mSl as).length ≤ mLc M' then (evM M' as σ').bind fun z => ev M pc' ls' (z.1.toList ++ st') z.2 else none
theorem ev0_long (X : mT) {M pc M' pc' : Nat} {ls ls' : mL} {st st' as : List Value} {σ σ' : mS} {q : mI} (hq : X.1 M pc = some q) (hs : stp X.2.2.2 (X.2.1 M) q pc ls st σ = some (.inr (.inr (M', as, σ', pc', ls', st')))) (hl : ¬ (mSl as).length ≤ X.2.2.1 M') : ev0 X M pc ls st σ = none := by
  cases hz : ev0 X M pc ls st σ with
  | none => rfl
  | some r =>
    obtain ⟨f, hf⟩ := (ev_run X r).mp hz
    cases f with
    | zero => simp [run] at hf
    | succ f =>
      rw [run, hq] at hf
      simp only [hs] at hf
      rw [if_neg hl] at hf
      cases hf
theorem ev_eq {M pc : Nat} {ls : mL} {st : List Value} {σ : mS} {q : mI} (hq : cod M pc = some q) : ev M pc ls st σ = evO M (stp ctT (mRt M) q pc ls st σ) := by
  cases hs : stp ctT (mRt M) q pc ls st σ with
  | none => exact ev0_none XX hq hs
  | some a =>
    rcases a with ⟨pc', ls', st', σ'⟩ | r | ⟨M', as, σ', pc', ls', st'⟩
    · exact ev0_go XX hq hs
    · exact ev0_ret XX hq hs
    · show ev M pc ls st σ = if _ then _ else _
      by_cases hl : (mSl as).length ≤ mLc M'
      · rw [if_pos hl]; exact ev0_call XX hq hs hl
      · rw [if_neg hl]; exact ev0_long XX hq hs hl
theorem evO_gf {M : Nat} {x : Option mE} {ci k : Nat} {K : Value → Option mA} : evO M (gfK x ci k K) = gfK x ci k (fun v => evO M (K v)) := by
  unfold gfK
  split
  · split
    · split <;> rfl
    · rfl
  · rfl
theorem evO_pf {M : Nat} {x : Option mE} {ci k : Nat} {v : Value} {K : mE → Option mA} : evO M (pfK x ci k v K) = pfK x ci k v (fun v => evO M (K v)) := by
  unfold pfK
  split
  · split <;> rfl
  · rfl
theorem evO_al {M : Nat} {x : Option mE} {t : Nat} {j : Int32} {K : Int32 → Option mA} : evO M (alK x t j K) = alK x t j (fun v => evO M (K v)) := by
  unfold alK
  split
  · split <;> rfl
  · rfl
theorem evO_as {M : Nat} {x : Option mE} {t : Nat} {j v : Int32} {K : mE → Option mA} : evO M (asK x t j v K) = asK x t j v (fun v => evO M (K v)) := by
  unfold asK
  split
  · split <;> rfl
  · rfl
section EVG
variable {M pc len a b c d i : Nat} {ls : mL} {st : List Value} {σ : mS}
theorem e_iconst {n : Int} (v : Int32) (hq : cod M pc = some (.iconst n, len, a, b, c, d)) (hv : Int32.ofInt n = v) : ev M pc ls st σ = ev M (pc + 1) ls (.int v :: st) σ := by subst hv; exact ev0_go XX hq rfl
theorem e_bipush {n : Int} (v : Int32) (hq : cod M pc = some (.bipush n, len, a, b, c, d)) (hv : (Int8.ofInt n).toInt32 = v) : ev M pc ls st σ = ev M (pc + 2) ls (.int v :: st) σ := by subst hv; exact ev0_go XX hq rfl
theorem e_sipush {n : Int} (v : Int32) (hq : cod M pc = some (.sipush n, len, a, b, c, d)) (hv : (Int16.ofInt n).toInt32 = v) : ev M pc ls st σ = ev M (pc + 3) ls (.int v :: st) σ := by subst hv; exact ev0_go XX hq rfl
theorem e_lconst {n : Fin 2} (v : Int64) (hq : cod M pc = some (.lconst n, len, a, b, c, d)) (hv : Int64.ofNat (n : Nat) = v) : ev M pc ls st σ = ev M (pc + 1) ls (.long v :: st) σ := by subst hv; exact ev0_go XX hq rfl
theorem e_ldcI (v : Int32) (hq : cod M pc = some (.ldc i, len, a, b, 0, d)) (hv : Int32.ofNat a = v) : ev M pc ls st σ = ev M (pc + 2) ls (.int v :: st) σ := by subst hv; exact ev0_go XX hq rfl
theorem e_ldcS (hq : cod M pc = some (.ldc i, len, a, b, 1, d)) : ev M pc ls st σ = ev M (pc + 2) ls (.float (UInt32.ofNat a) :: st) σ := ev0_go XX hq rfl
theorem e_ldcw (v : Int32) (hq : cod M pc = some (.ldc_w i, len, a, b, c, d)) (hv : Int32.ofNat a = v) : ev M pc ls st σ = ev M (pc + 3) ls (.int v :: st) σ := by subst hv; exact ev0_go XX hq rfl
theorem e_ldc2 (v : Int64) (hq : cod M pc = some (.ldc2_w i, len, a, b, c, d)) (hv : cstL a c = v) : ev M pc ls st σ = ev M (pc + 3) ls (.long v :: st) σ := by subst hv; exact ev0_go XX hq rfl
theorem e_iload1 {k : Fin 4} {x : Int32} (hq : cod M pc = some (.iload_n k, len, a, b, c, d)) (hl : ls[(k : Nat)]? = some (some (.int x))) : ev M pc ls st σ = ev M (pc + 1) ls (.int x :: st) σ := ev0_go XX hq (by simp only [stp, lvI, hl])
theorem e_iload0 {k : Nat} {x : Int32} (hq : cod M pc = some (.iload k, len, a, b, c, d)) (hl : ls[k]? = some (some (.int x))) : ev M pc ls st σ = ev M (pc + 2) ls (.int x :: st) σ := ev0_go XX hq (by simp only [stp, lvI, hl])
theorem e_lload1 {k : Fin 4} {x : Int64} (hq : cod M pc = some (.lload_n k, len, a, b, c, d)) (hl : ls[(k : Nat)]? = some (some (.long x))) : ev M pc ls st σ = ev M (pc + 1) ls (.long x :: st) σ := ev0_go XX hq (by simp only [stp, lvL, hl])
theorem e_lload0 {k : Nat} {x : Int64} (hq : cod M pc = some (.lload k, len, a, b, c, d)) (hl : ls[k]? = some (some (.long x))) : ev M pc ls st σ = ev M (pc + 2) ls (.long x :: st) σ := ev0_go XX hq (by simp only [stp, lvL, hl])
theorem e_aload1 {k : Fin 4} {x : Nat} (hq : cod M pc = some (.aload_n k, len, a, b, c, d)) (hl : ls[(k : Nat)]? = some (some (.ref x))) : ev M pc ls st σ = ev M (pc + 1) ls (.ref x :: st) σ := ev0_go XX hq (by simp only [stp, lvR, hl])
theorem e_aload0 {k : Nat} {x : Nat} (hq : cod M pc = some (.aload k, len, a, b, c, d)) (hl : ls[k]? = some (some (.ref x))) : ev M pc ls st σ = ev M (pc + 2) ls (.ref x :: st) σ := ev0_go XX hq (by simp only [stp, lvR, hl])
theorem e_fload1 {k : Fin 4} {x : UInt32} (hq : cod M pc = some (.aload_n k, len, a, b, c, d)) (hl : ls[(k : Nat)]? = some (some (.float x))) : ev M pc ls st σ = ev M (pc + 1) ls (.float x :: st) σ := ev0_go XX hq (by simp only [stp, lvR, hl])
theorem e_fload0 {k : Nat} {x : UInt32} (hq : cod M pc = some (.aload k, len, a, b, c, d)) (hl : ls[k]? = some (some (.float x))) : ev M pc ls st σ = ev M (pc + 2) ls (.float x :: st) σ := ev0_go XX hq (by simp only [stp, lvR, hl])
theorem e_istore1 {k : Fin 4} {x : Int32} (hq : cod M pc = some (.istore_n k, len, a, b, c, d)) (hl : (k : Nat) < ls.length) : ev M pc ls (.int x :: st) σ = ev M (pc + 1) (lst1 ls (k : Nat) (.int x)) st σ := ev0_go XX hq (by simp only [stp, opI, if_pos hl])
theorem e_istore0 {k : Nat} {x : Int32} (hq : cod M pc = some (.istore k, len, a, b, c, d)) (hl : k < ls.length) : ev M pc ls (.int x :: st) σ = ev M (pc + 2) (lst1 ls k (.int x)) st σ := ev0_go XX hq (by simp only [stp, opI, if_pos hl])
theorem e_astore1 {k : Fin 4} {x : Nat} (hq : cod M pc = some (.astore_n k, len, a, b, c, d)) (hl : (k : Nat) < ls.length) : ev M pc ls (.ref x :: st) σ = ev M (pc + 1) (lst1 ls (k : Nat) (.ref x)) st σ := ev0_go XX hq (by simp only [stp, opR, if_pos hl])
theorem e_astore0 {k : Nat} {x : Nat} (hq : cod M pc = some (.astore k, len, a, b, c, d)) (hl : k < ls.length) : ev M pc ls (.ref x :: st) σ = ev M (pc + 2) (lst1 ls k (.ref x)) st σ := ev0_go XX hq (by simp only [stp, opR, if_pos hl])
theorem e_lstore1 {k : Fin 4} {x : Int64} (hq : cod M pc = some (.lstore_n k, len, a, b, c, d)) (hl : (k : Nat) + 1 < ls.length) : ev M pc ls (.long x :: st) σ = ev M (pc + 1) (lst2 ls (k : Nat) (.long x)) st σ := ev0_go XX hq (by simp only [stp, opL, if_pos hl])
theorem e_lstore0 {k : Nat} {x : Int64} (hq : cod M pc = some (.lstore k, len, a, b, c, d)) (hl : k + 1 < ls.length) : ev M pc ls (.long x :: st) σ = ev M (pc + 2) (lst2 ls k (.long x)) st σ := ev0_go XX hq (by simp only [stp, opL, if_pos hl])
theorem e_iinc {k : Nat} {z : Int} {x : Int32} (v : Int32) (hq : cod M pc = some (.iinc k z, len, a, b, c, d)) (hv : Int32.ofInt z = v) (hl : ls[k]? = some (some (.int x))) : ev M pc ls st σ = ev M (pc + 3) (lst1 ls k (.int (x + v))) st σ := by
  subst hv
  exact ev0_go XX hq (by simp only [stp, lvI, hl, if_pos (List.getElem?_eq_some_iff.mp hl).1])
-- GENERATED
theorem e_iadd {x y : Int32} (hq : cod M pc = some (.iadd, len, a, b, c, d)) : ev M pc ls (.int y :: .int x :: st) σ = ev M (pc + 1) ls (.int (x + y) :: st) σ := ev0_go XX hq rfl
theorem e_isub {x y : Int32} (hq : cod M pc = some (.isub, len, a, b, c, d)) : ev M pc ls (.int y :: .int x :: st) σ = ev M (pc + 1) ls (.int (x - y) :: st) σ := ev0_go XX hq rfl
theorem e_imul {x y : Int32} (hq : cod M pc = some (.imul, len, a, b, c, d)) : ev M pc ls (.int y :: .int x :: st) σ = ev M (pc + 1) ls (.int (x * y) :: st) σ := ev0_go XX hq rfl
theorem e_iand {x y : Int32} (hq : cod M pc = some (.iand, len, a, b, c, d)) : ev M pc ls (.int y :: .int x :: st) σ = ev M (pc + 1) ls (.int (x &&& y) :: st) σ := ev0_go XX hq rfl
theorem e_ior {x y : Int32} (hq : cod M pc = some (.ior, len, a, b, c, d)) : ev M pc ls (.int y :: .int x :: st) σ = ev M (pc + 1) ls (.int (x ||| y) :: st) σ := ev0_go XX hq rfl
theorem e_ixor {x y : Int32} (hq : cod M pc = some (.ixor, len, a, b, c, d)) : ev M pc ls (.int y :: .int x :: st) σ = ev M (pc + 1) ls (.int (x ^^^ y) :: st) σ := ev0_go XX hq rfl
theorem e_ishl {x y : Int32} (hq : cod M pc = some (.ishl, len, a, b, c, d)) : ev M pc ls (.int y :: .int x :: st) σ = ev M (pc + 1) ls (.int (x <<< (y &&& 31)) :: st) σ := ev0_go XX hq rfl
theorem e_ishr {x y : Int32} (hq : cod M pc = some (.ishr, len, a, b, c, d)) : ev M pc ls (.int y :: .int x :: st) σ = ev M (pc + 1) ls (.int (x >>> (y &&& 31)) :: st) σ := ev0_go XX hq rfl
theorem e_iushr {x y : Int32} (hq : cod M pc = some (.iushr, len, a, b, c, d)) : ev M pc ls (.int y :: .int x :: st) σ = ev M (pc + 1) ls (.int ((x.toUInt32 >>> (y.toUInt32 &&& Int32.toUInt32 31)).toInt32) :: st) σ := ev0_go XX hq rfl
theorem e_idiv {x y : Int32} (hq : cod M pc = some (.idiv, len, a, b, c, d)) : ev M pc ls (.int y :: .int x :: st) σ = if y = 0 then none else ev M (pc + 1) ls (.int (x / y) :: st) σ := by
  by_cases h : y = 0
  · rw [if_pos h]; exact ev0_none XX hq (by simp only [XX, stp, opII, if_pos h])
  · rw [if_neg h]; exact ev0_go XX hq (by simp only [stp, opII, if_neg h])
theorem e_ladd {x y : Int64} (hq : cod M pc = some (.ladd, len, a, b, c, d)) : ev M pc ls (.long y :: .long x :: st) σ = ev M (pc + 1) ls (.long (x + y) :: st) σ := ev0_go XX hq rfl
theorem e_lmul {x y : Int64} (hq : cod M pc = some (.lmul, len, a, b, c, d)) : ev M pc ls (.long y :: .long x :: st) σ = ev M (pc + 1) ls (.long (x * y) :: st) σ := ev0_go XX hq rfl
theorem e_land {x y : Int64} (hq : cod M pc = some (.land, len, a, b, c, d)) : ev M pc ls (.long y :: .long x :: st) σ = ev M (pc + 1) ls (.long (x &&& y) :: st) σ := ev0_go XX hq rfl
theorem e_lor {x y : Int64} (hq : cod M pc = some (.lor, len, a, b, c, d)) : ev M pc ls (.long y :: .long x :: st) σ = ev M (pc + 1) ls (.long (x ||| y) :: st) σ := ev0_go XX hq rfl
theorem e_ldiv {x y : Int64} (hq : cod M pc = some (.ldiv, len, a, b, c, d)) : ev M pc ls (.long y :: .long x :: st) σ = if y = 0 then none else ev M (pc + 1) ls (.long (x / y) :: st) σ := by
  by_cases h : y = 0
  · rw [if_pos h]; exact ev0_none XX hq (by simp only [XX, stp, opLL, if_pos h])
  · rw [if_neg h]; exact ev0_go XX hq (by simp only [stp, opLL, if_neg h])
theorem e_lcmp {x y : Int64} (hq : cod M pc = some (.lcmp, len, a, b, c, d)) : ev M pc ls (.long y :: .long x :: st) σ = ev M (pc + 1) ls (.int (lg_cmp x y) :: st) σ := ev0_go XX hq rfl
theorem e_lshl {x : Int64} {y : Int32} (hq : cod M pc = some (.lshl, len, a, b, c, d)) : ev M pc ls (.int y :: .long x :: st) σ = ev M (pc + 1) ls (.long (x <<< (y.toInt64 &&& 63)) :: st) σ := ev0_go XX hq rfl
theorem e_lshr {x : Int64} {y : Int32} (hq : cod M pc = some (.lshr, len, a, b, c, d)) : ev M pc ls (.int y :: .long x :: st) σ = ev M (pc + 1) ls (.long (x >>> (y.toInt64 &&& 63)) :: st) σ := ev0_go XX hq rfl
theorem e_lushr {x : Int64} {y : Int32} (hq : cod M pc = some (.lushr, len, a, b, c, d)) : ev M pc ls (.int y :: .long x :: st) σ = ev M (pc + 1) ls (.long ((x.toUInt64 >>> (y.toInt64.toUInt64 &&& Int64.toUInt64 63)).toInt64) :: st) σ := ev0_go XX hq rfl
theorem e_ineg {x : Int32} (hq : cod M pc = some (.ineg, len, a, b, c, d)) : ev M pc ls (.int x :: st) σ = ev M (pc + 1) ls (.int (-x) :: st) σ := ev0_go XX hq rfl
theorem e_i2l {x : Int32} (hq : cod M pc = some (.i2l, len, a, b, c, d)) : ev M pc ls (.int x :: st) σ = ev M (pc + 1) ls (.long x.toInt64 :: st) σ := ev0_go XX hq rfl
theorem e_l2i {x : Int64} (hq : cod M pc = some (.l2i, len, a, b, c, d)) : ev M pc ls (.long x :: st) σ = ev M (pc + 1) ls (.int x.toInt32 :: st) σ := ev0_go XX hq rfl
theorem e_pop {x : Int32} (hq : cod M pc = some (.pop, len, a, b, c, d)) : ev M pc ls (.int x :: st) σ = ev M (pc + 1) ls st σ := ev0_go XX hq rfl
theorem e_dupI {x : Int32} (hq : cod M pc = some (.dup, len, a, b, c, d)) : ev M pc ls (.int x :: st) σ = ev M (pc + 1) ls (.int x :: .int x :: st) σ := ev0_go XX hq rfl
theorem e_dupR {x : Nat} (hq : cod M pc = some (.dup, len, a, b, c, d)) : ev M pc ls (.ref x :: st) σ = ev M (pc + 1) ls (.ref x :: .ref x :: st) σ := ev0_go XX hq rfl
theorem e_dup2 {x : Int32} {y : Nat} (hq : cod M pc = some (.dup2, len, a, b, c, d)) : ev M pc ls (.int x :: .ref y :: st) σ = ev M (pc + 1) ls (.int x :: .ref y :: .int x :: .ref y :: st) σ := ev0_go XX hq rfl
theorem e_if_eq {x : Int32} {off : Int} (hq : cod M pc = some (.ifCond .eq off, len, a, b, c, d)) : ev M pc ls (.int x :: st) σ = if x = 0 then ev M a ls st σ else ev M (pc + 3) ls st σ := by
  by_cases h : x = 0
  · rw [if_pos h]; exact ev0_go XX hq (by simp only [stp, opI, mgo, if_pos (show condI .eq x 0 from h)])
  · rw [if_neg h]; exact ev0_go XX hq (by simp only [stp, opI, mgo, if_neg (show ¬ condI .eq x 0 from h)])
theorem e_ic_eq {x y : Int32} {off : Int} (hq : cod M pc = some (.if_icmp .eq off, len, a, b, c, d)) : ev M pc ls (.int y :: .int x :: st) σ = if x = y then ev M a ls st σ else ev M (pc + 3) ls st σ := by
  by_cases h : x = y
  · rw [if_pos h]; exact ev0_go XX hq (by simp only [stp, opII, mgo, if_pos (show condI .eq x y from h)])
  · rw [if_neg h]; exact ev0_go XX hq (by simp only [stp, opII, mgo, if_neg (show ¬ condI .eq x y from h)])
theorem e_if_ne {x : Int32} {off : Int} (hq : cod M pc = some (.ifCond .ne off, len, a, b, c, d)) : ev M pc ls (.int x :: st) σ = if x = 0 then ev M (pc + 3) ls st σ else ev M a ls st σ := by
  by_cases h : x = 0
  · rw [if_pos h]; exact ev0_go XX hq (by simp only [stp, opI, mgo, if_neg (show ¬ condI .ne x 0 from fun q => q h)])
  · rw [if_neg h]; exact ev0_go XX hq (by simp only [stp, opI, mgo, if_pos (show condI .ne x 0 from h)])
theorem e_ic_ne {x y : Int32} {off : Int} (hq : cod M pc = some (.if_icmp .ne off, len, a, b, c, d)) : ev M pc ls (.int y :: .int x :: st) σ = if x = y then ev M (pc + 3) ls st σ else ev M a ls st σ := by
  by_cases h : x = y
  · rw [if_pos h]; exact ev0_go XX hq (by simp only [stp, opII, mgo, if_neg (show ¬ condI .ne x y from fun q => q h)])
  · rw [if_neg h]; exact ev0_go XX hq (by simp only [stp, opII, mgo, if_pos (show condI .ne x y from h)])
theorem e_if_lt {x : Int32} {off : Int} (hq : cod M pc = some (.ifCond .lt off, len, a, b, c, d)) : ev M pc ls (.int x :: st) σ = if x < 0 then ev M a ls st σ else ev M (pc + 3) ls st σ := by
  by_cases h : x < 0
  · rw [if_pos h]; exact ev0_go XX hq (by simp only [stp, opI, mgo, if_pos (show condI .lt x 0 from h)])
  · rw [if_neg h]; exact ev0_go XX hq (by simp only [stp, opI, mgo, if_neg (show ¬ condI .lt x 0 from h)])
theorem e_ic_lt {x y : Int32} {off : Int} (hq : cod M pc = some (.if_icmp .lt off, len, a, b, c, d)) : ev M pc ls (.int y :: .int x :: st) σ = if x < y then ev M a ls st σ else ev M (pc + 3) ls st σ := by
  by_cases h : x < y
  · rw [if_pos h]; exact ev0_go XX hq (by simp only [stp, opII, mgo, if_pos (show condI .lt x y from h)])
  · rw [if_neg h]; exact ev0_go XX hq (by simp only [stp, opII, mgo, if_neg (show ¬ condI .lt x y from h)])
theorem e_if_ge {x : Int32} {off : Int} (hq : cod M pc = some (.ifCond .ge off, len, a, b, c, d)) : ev M pc ls (.int x :: st) σ = if 0 ≤ x then ev M a ls st σ else ev M (pc + 3) ls st σ := by
  by_cases h : 0 ≤ x
  · rw [if_pos h]; exact ev0_go XX hq (by simp only [stp, opI, mgo, if_pos (show condI .ge x 0 from h)])
  · rw [if_neg h]; exact ev0_go XX hq (by simp only [stp, opI, mgo, if_neg (show ¬ condI .ge x 0 from h)])
theorem e_ic_ge {x y : Int32} {off : Int} (hq : cod M pc = some (.if_icmp .ge off, len, a, b, c, d)) : ev M pc ls (.int y :: .int x :: st) σ = if y ≤ x then ev M a ls st σ else ev M (pc + 3) ls st σ := by
  by_cases h : y ≤ x
  · rw [if_pos h]; exact ev0_go XX hq (by simp only [stp, opII, mgo, if_pos (show condI .ge x y from h)])
  · rw [if_neg h]; exact ev0_go XX hq (by simp only [stp, opII, mgo, if_neg (show ¬ condI .ge x y from h)])
theorem e_if_gt {x : Int32} {off : Int} (hq : cod M pc = some (.ifCond .gt off, len, a, b, c, d)) : ev M pc ls (.int x :: st) σ = if 0 < x then ev M a ls st σ else ev M (pc + 3) ls st σ := by
  by_cases h : 0 < x
  · rw [if_pos h]; exact ev0_go XX hq (by simp only [stp, opI, mgo, if_pos (show condI .gt x 0 from h)])
  · rw [if_neg h]; exact ev0_go XX hq (by simp only [stp, opI, mgo, if_neg (show ¬ condI .gt x 0 from h)])
theorem e_ic_gt {x y : Int32} {off : Int} (hq : cod M pc = some (.if_icmp .gt off, len, a, b, c, d)) : ev M pc ls (.int y :: .int x :: st) σ = if y < x then ev M a ls st σ else ev M (pc + 3) ls st σ := by
  by_cases h : y < x
  · rw [if_pos h]; exact ev0_go XX hq (by simp only [stp, opII, mgo, if_pos (show condI .gt x y from h)])
  · rw [if_neg h]; exact ev0_go XX hq (by simp only [stp, opII, mgo, if_neg (show ¬ condI .gt x y from h)])
theorem e_if_le {x : Int32} {off : Int} (hq : cod M pc = some (.ifCond .le off, len, a, b, c, d)) : ev M pc ls (.int x :: st) σ = if x ≤ 0 then ev M a ls st σ else ev M (pc + 3) ls st σ := by
  by_cases h : x ≤ 0
  · rw [if_pos h]; exact ev0_go XX hq (by simp only [stp, opI, mgo, if_pos (show condI .le x 0 from h)])
  · rw [if_neg h]; exact ev0_go XX hq (by simp only [stp, opI, mgo, if_neg (show ¬ condI .le x 0 from h)])
theorem e_ic_le {x y : Int32} {off : Int} (hq : cod M pc = some (.if_icmp .le off, len, a, b, c, d)) : ev M pc ls (.int y :: .int x :: st) σ = if x ≤ y then ev M a ls st σ else ev M (pc + 3) ls st σ := by
  by_cases h : x ≤ y
  · rw [if_pos h]; exact ev0_go XX hq (by simp only [stp, opII, mgo, if_pos (show condI .le x y from h)])
  · rw [if_neg h]; exact ev0_go XX hq (by simp only [stp, opII, mgo, if_neg (show ¬ condI .le x y from h)])
theorem e_goto {off : Int} (hq : cod M pc = some (.goto off, len, a, b, c, d)) : ev M pc ls st σ = ev M a ls st σ := ev0_go XX hq rfl
theorem e_sw {x : Int32} {df lo hi : Int} {off : Array Int} (hq : cod M pc = some (.tableswitch df lo hi off, len, a, b, c, d)) : ev M pc ls (.int x :: st) σ = ev M ((pc : Int) + swT df lo hi off x).toNat ls st σ := ev0_go XX hq rfl
theorem e_iret {x : Int32} (hq : cod M pc = some (.ireturn, len, a, b, c, d)) (hr : mRt M = some .int) : ev M pc ls [.int x] σ = some (some (.int x), σ) := ev0_ret XX hq (by show stp _ (mRt M) _ _ _ _ _ = _; rw [hr]; rfl)
theorem e_zret {x : Int32} (hq : cod M pc = some (.ireturn, len, a, b, c, d)) (hr : mRt M = some .boolean) : ev M pc ls [.int x] σ = if x = 0 ∨ x = 1 then some (some (.int x), σ) else none := by
  by_cases h : x = 0 ∨ x = 1
  · rw [if_pos h]
    exact ev0_ret XX hq (by show stp _ (mRt M) _ _ _ _ _ = _; rw [hr]; simp only [stp, opI]; rw [if_pos (Or.inr ⟨trivial, h⟩)])
  · rw [if_neg h]
    refine ev0_none XX hq (by show stp _ (mRt M) _ _ _ _ _ = _; rw [hr]; simp only [stp, opI]; rw [if_neg (by rintro (q | q); (exact absurd q (by decide)); exact h q.2)])
theorem e_lret {x : Int64} (hq : cod M pc = some (.lreturn, len, a, b, c, d)) (hr : mRt M = some .long) : ev M pc ls [.long x] σ = some (some (.long x), σ) := ev0_ret XX hq (by show stp _ (mRt M) _ _ _ _ _ = _; rw [hr]; rfl)
theorem e_vret (hq : cod M pc = some (.return_, len, a, b, c, d)) (hr : mRt M = none) : ev M pc ls [] σ = some (none, σ) := ev0_ret XX hq (by show stp _ (mRt M) _ _ _ _ _ = _; rw [hr]; rfl)
theorem e_getf {t : Nat} (hq : cod M pc = some (.getfield i, len, a, b, c, d)) : ev M pc ls (.ref t :: st) σ = gfK (σ.1 t) a b (fun v => ev M (pc + 3) ls (v :: st) σ) := (ev_eq hq).trans evO_gf
theorem e_putI {x : Int32} {t : Nat} (hq : cod M pc = some (.putfield i, len, a, b, c, 0)) : ev M pc ls (.int x :: .ref t :: st) σ = pfK (σ.1 t) a b (.int x) (fun e => ev M (pc + 3) ls st (mset σ t e)) := (ev_eq hq).trans (by simp only [stp, opV, opR]; rw [if_pos (show okv 0 (.int x) from trivial)]; exact evO_pf)
theorem e_putZ {x : Int32} {t : Nat} (hq : cod M pc = some (.putfield i, len, a, b, c, 1)) (hx : x = 0 ∨ x = 1) : ev M pc ls (.int x :: .ref t :: st) σ = pfK (σ.1 t) a b (.int x) (fun e => ev M (pc + 3) ls st (mset σ t e)) := (ev_eq hq).trans (by simp only [stp, opV, opR]; rw [if_pos (show okv 1 (.int x) from hx)]; exact evO_pf)
theorem e_putJ {x : Int64} {t : Nat} (hq : cod M pc = some (.putfield i, len, a, b, c, 2)) : ev M pc ls (.long x :: .ref t :: st) σ = pfK (σ.1 t) a b (.long x) (fun e => ev M (pc + 3) ls st (mset σ t e)) := (ev_eq hq).trans (by simp only [stp, opV, opR]; rw [if_pos (show okv 2 (.long x) from trivial)]; exact evO_pf)
theorem e_putR {x : Nat} {t : Nat} (hq : cod M pc = some (.putfield i, len, a, b, c, 3)) : ev M pc ls (.ref x :: .ref t :: st) σ = pfK (σ.1 t) a b (.ref x) (fun e => ev M (pc + 3) ls st (mset σ t e)) := (ev_eq hq).trans (by simp only [stp, opV, opR]; rw [if_pos (show okv 3 (.ref x) from trivial)]; exact evO_pf)
theorem e_iald {t : Nat} {j : Int32} (hq : cod M pc = some (.iaload, len, a, b, c, d)) : ev M pc ls (.int j :: .ref t :: st) σ = alK (σ.1 t) 0 j (fun v => ev M (pc + 1) ls (.int v :: st) σ) := by rw [ev_eq hq]; simp only [stp, opI, opR]; exact evO_al
theorem e_bald {t : Nat} {j : Int32} (hq : cod M pc = some (.baload, len, a, b, c, d)) : ev M pc ls (.int j :: .ref t :: st) σ = alK (σ.1 t) 1 j (fun v => ev M (pc + 1) ls (.int v :: st) σ) := by rw [ev_eq hq]; simp only [stp, opI, opR]; exact evO_al
theorem e_sald {j : Int32} (hq : cod M pc = some (.iaload, len, a, b, c, d)) (hj : ¬ (j < 0 ∨ σ.2.2.2.1 ≤ j.toNatClampNeg)) : ev M pc ls (.int j :: .float 9 :: st) σ = ev M (pc + 1) ls (.int (σ.2.2.2.2 j.toNatClampNeg) :: st) σ := by rw [ev_eq hq]; simp only [stp, opI]; rw [if_pos ⟨trivial, hj⟩]; rfl
theorem e_slen (hq : cod M pc = some (.arraylength, len, a, b, c, d)) : ev M pc ls (.float 9 :: st) σ = ev M (pc + 1) ls (.int (Int32.ofNat σ.2.2.2.1) :: st) σ := by rw [ev_eq hq]; simp [stp, evO, mgo]
theorem e_iast {t : Nat} {j x : Int32} (hq : cod M pc = some (.iastore, len, a, b, c, d)) : ev M pc ls (.int x :: .int j :: .ref t :: st) σ = asK (σ.1 t) 0 j x (fun e => ev M (pc + 1) ls st (mset σ t e)) := by rw [ev_eq hq]; simp only [stp, opII, opR]; exact evO_as
theorem e_bast {t : Nat} {j x : Int32} (hq : cod M pc = some (.bastore, len, a, b, c, d)) (hx : x = 0 ∨ x = 1) : ev M pc ls (.int x :: .int j :: .ref t :: st) σ = asK (σ.1 t) 1 j x (fun e => ev M (pc + 1) ls st (mset σ t e)) := (ev_eq hq).trans (by simp only [stp, opII, opR]; rw [if_pos hx]; exact evO_as)
theorem e_alen {t n : Nat} {f : Nat → Int32} (hq : cod M pc = some (.arraylength, len, a, b, c, d)) (ht : σ.1 t = some (.inl (0, n, f))) : ev M pc ls (.ref t :: st) σ = ev M (pc + 1) ls (.int (Int32.ofNat n) :: st) σ := by rw [ev_eq hq]; simp [stp, ht, lnK, evO, mgo]
theorem e_new (hq : cod M pc = some (.new i, len, a, b, c, d)) : ev M pc ls st σ = ev M (pc + 3) ls (.ref σ.2.1 :: st) (mnew σ (.inr (a, (ctT a).map dfv)) (ctT a).length) := ev0_go XX hq rfl
theorem e_newa {k : ArrayType} {x : Int32} (hq : cod M pc = some (.newarray k, len, a, b, c, d)) (hx : ¬ (x < 0 ∨ 100000 < x.toNatClampNeg)) : ev M pc ls (.int x :: st) σ = ev M (pc + 2) ls (.ref σ.2.1 :: st) (mnew σ (.inl (a, x.toNatClampNeg, fun _ => 0)) x.toNatClampNeg) := ev0_go XX hq (by simp only [stp, opI]; rw [if_neg hx])
theorem e_slength {z : UInt32} (hq : cod M pc = some (.invokevirtual i, len, a, b, 7, d)) (hz : z.toNat < 4 ∧ mCat st ≤ 8) : ev M pc ls (.float z :: st) σ = ev M (pc + 3) ls (.int (Int32.ofNat (sBy z.toNat).length) :: st) σ := by rw [ev_eq hq]; simp only [stp]; rw [if_pos trivial, if_pos hz]; rfl
theorem e_scharAt {z : UInt32} {j : Int32} (hq : cod M pc = some (.invokevirtual i, len, a, b, 8, d)) (hz : z.toNat < 4 ∧ ¬ (j < 0 ∨ (sBy z.toNat).length ≤ j.toNatClampNeg) ∧ mCat st ≤ 8) : ev M pc ls (.int j :: .float z :: st) σ = ev M (pc + 3) ls (.int ((sBy z.toNat).getD j.toNatClampNeg 0) :: st) σ := by rw [ev_eq hq]; simp only [stp]; rw [if_neg (by decide), if_pos trivial, if_pos hz]; rfl
theorem e_objInit {x : Nat} (hq : cod M pc = some (.invokespecial i, len, a, b, 9, d)) (hz : mCat st ≤ 8) : ev M pc ls (.ref x :: st) σ = ev M (pc + 3) ls st σ := by rw [ev_eq hq]; simp only [stp, opR]; rw [if_pos trivial, if_pos hz]; rfl
theorem e_max {x y : Int32} (hq : cod M pc = some (.invokestatic i, len, a, b, 4, d)) (hz : mCat st ≤ 8) : ev M pc ls (.int y :: .int x :: st) σ = ev M (pc + 3) ls (.int (if x < y then y else x) :: st) σ := by rw [ev_eq hq]; simp only [stp, opII]; rw [if_pos trivial, if_pos hz]; rfl
theorem e_min {x y : Int32} (hq : cod M pc = some (.invokestatic i, len, a, b, 5, d)) (hz : mCat st ≤ 8) : ev M pc ls (.int y :: .int x :: st) σ = ev M (pc + 3) ls (.int (if y < x then y else x) :: st) σ := by rw [ev_eq hq]; simp only [stp, opII]; rw [if_neg (by decide), if_pos trivial, if_pos hz]; rfl
theorem e_abs {x : Int32} (hq : cod M pc = some (.invokestatic i, len, a, b, 6, d)) (hz : mCat st ≤ 8) : ev M pc ls (.int x :: st) σ = ev M (pc + 3) ls (.int (if 0 ≤ x then x else 0 - x) :: st) σ := by rw [ev_eq hq]; simp only [stp, opI]; rw [if_neg (by decide), if_neg (by decide), if_pos trivial, if_pos hz]; rfl
theorem evM_bind {M pc M' : Nat} {ls : mL} {st : List Value} {σ : mS} {as : List Value} {pc' : Nat} : ((ev0 XX M' 0 (mEnt as (mLc M')) [] σ).bind fun z => ev0 XX M pc' ls (z.1.toList ++ st) z.2) = (evM M' as σ).bind fun z => ev M pc' ls (z.1.toList ++ st) z.2 := rfl
theorem e_callV {t : Nat} {fs as0 : List Value} {st0 : List Value} (hq : cod M pc = some (.invokevirtual i, len, a, b, c, d)) (hc : c ≠ 7 ∧ c ≠ 8) (hp : mpop (b + 1) st0 [] = some (.ref t :: as0, st)) (hm : mCat st ≤ 8 ∧ (mSl (.ref t :: as0)).length ≤ mLc a) (ht : σ.1 t = some (.inr (d, fs))) : ev M pc ls st0 σ = (evM a (.ref t :: as0) σ).bind fun z => ev M (pc + 3) ls (z.1.toList ++ st) z.2 :=
  ev0_call XX hq (by simp only [stp]; rw [if_neg hc.1, if_neg hc.2, hp]; simp only [ht, isC, mcall]; rw [if_pos trivial, if_pos hm.1]) hm.2
theorem e_callI {t : Nat} {as0 : List Value} {st0 : List Value} (hq : cod M pc = some (.invokespecial i, len, a, b, c, d)) (hc : c ≠ 9) (hp : mpop (b + 1) st0 [] = some (.ref t :: as0, st)) (hm : mCat st ≤ 8 ∧ (mSl (.ref t :: as0)).length ≤ mLc a) : ev M pc ls st0 σ = (evM a (.ref t :: as0) σ).bind fun z => ev M (pc + 3) ls (z.1.toList ++ st) z.2 :=
  ev0_call XX hq (by simp only [stp]; rw [if_neg hc, hp]; simp only [mcall]; rw [if_pos hm.1]) hm.2
theorem e_callS {as0 : List Value} {st0 : List Value} (hq : cod M pc = some (.invokestatic i, len, a, b, c, d)) (hc : c ≠ 4 ∧ c ≠ 5 ∧ c ≠ 6) (hp : mpop b st0 [] = some (as0, st)) (hm : mCat st ≤ 8 ∧ (mSl as0).length ≤ mLc a) : ev M pc ls st0 σ = (evM a as0 σ).bind fun z => ev M (pc + 3) ls (z.1.toList ++ st) z.2 :=
  ev0_call XX hq (by simp only [stp]; rw [if_neg hc.1, if_neg hc.2.1, if_neg hc.2.2, hp]; simp only [mcall]; rw [if_pos hm.1]) hm.2
theorem evO_isC {M : Nat} {x : Option mE} {ci : Nat} {K : Option mA} : evO M (isC x ci K) = isC x ci (evO M K) := by
  unfold isC
  split
  · split <;> rfl
  · rfl
theorem evO_ln {M : Nat} {x : Option mE} {K : Int32 → Option mA} : evO M (lnK x K) = lnK x (fun v => evO M (K v)) := by
  unfold lnK
  split
  · split <;> rfl
  · rfl
theorem e_alenK {t : Nat} (hq : cod M pc = some (.arraylength, len, a, b, c, d)) : ev M pc ls (.ref t :: st) σ = lnK (σ.1 t) (fun v => ev M (pc + 1) ls (.int v :: st) σ) := by rw [ev_eq hq]; simp only [stp]; exact evO_ln
theorem e_callVK {t : Nat} {as0 : List Value} {st0 : List Value} (hq : cod M pc = some (.invokevirtual i, len, a, b, c, d)) (hc : c ≠ 7 ∧ c ≠ 8) (hp : mpop (b + 1) st0 [] = some (.ref t :: as0, st)) (hm : mCat st ≤ 8 ∧ (mSl (.ref t :: as0)).length ≤ mLc a) : ev M pc ls st0 σ = isC (σ.1 t) d ((evM a (.ref t :: as0) σ).bind fun z => ev M (pc + 3) ls (z.1.toList ++ st) z.2) := by
  rw [ev_eq hq]
  simp only [stp]
  rw [if_neg hc.1, if_neg hc.2, hp]
  simp only [mcall]
  rw [if_pos hm.1, evO_isC]
  show isC _ _ (if _ then _ else _) = _
  rw [if_pos hm.2]
theorem swT_out {df lo hi : Int} {off : Array Int} {x : Int32} {n : Nat} (hn : hi = lo + n - 1) (hs : off.size = n) (h : ∀ j : Nat, j < n → ¬ x = Int32.ofInt (lo + j)) : swT df lo hi off x = df := by
  unfold swT
  by_cases hz : x.toInt < lo ∨ hi < x.toInt
  · rw [if_pos hz]
  · exfalso
    have h1 : lo ≤ x.toInt := Int.not_lt.mp fun q => hz (Or.inl q)
    have h2 : x.toInt ≤ hi := Int.not_lt.mp fun q => hz (Or.inr q)
    refine h (x.toInt - lo).toNat (by omega) ?_
    rw [show lo + ((x.toInt - lo).toNat : Int) = x.toInt by omega]
    exact (Int32.ofInt_toInt x).symm
end EVG
