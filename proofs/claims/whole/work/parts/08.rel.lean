/-! WHAT TIES the mini machine to the machine: cells, locals, words; what is known of every state. -/
def mv (b : Nat) (K : Nat → Nat) : Value → Value
  | .ref k => .ref (b + k)
  | .float i => .ref (K i.toNat)
  | v => v
def mc (b : Nat) (cA K : Nat → Nat) : mE → va_E
  | .inl (t, n, f) => .inl (cA t, n, .inl f)
  | .inr (ci, fs) => .inr (ci, fs.map (mv b K))
def Rel (b : Nat) (D : va_G) (cA K : Nat → Nat) (σ : mS) (H : Heap) : Prop := H.size = b + σ.2.1 ∧ ∀ k e, σ.1 k = some e → k < σ.2.1 ∧ va_at D classes (b + k, mc b cA K e) H
def mLS (b : Nat) (K : Nat → Nat) (lsr : Array Slot) (n : Nat) (ls : mL) : Prop := lsr.size = n ∧ lv_wf lsr ∧ ls.length = n ∧ ∀ (i : Nat) (v : Value), ls[i]? = some (some v) → lsr[i]? = some (Slot.val (mv b K v))
def mA0 (b : Nat) : Nat → Prop := fun q => b ≤ q
def TT : List Jvm.Cond := lw_tbl.filter goodWord
theorem tt_of {w : Jvm.Cond} (h : w ∈ tables_1) (g : goodWord w = true) : w ∈ TT := List.mem_filter.mpr ⟨List.mem_append_right _ h, g⟩
theorem tt_of' {w : Jvm.Cond} (h : w ∈ lw_tbl) (g : goodWord w = true) : w ∈ TT := List.mem_filter.mpr ⟨h, g⟩
def flW (x : Nat × Nat × Nat × Nat × Nat) : Jvm.Cond := match x with
  | (o, i, ci, k, n) => match n with
    | 1 => Jvm.Cond.fieldLinkNest (cN o) i (cN ci) (FT ci k).2.1 (FT ci k).2.2.1 "ReinHall"
    | _ => Jvm.Cond.fieldLink (cN o) i (cN ci) (FT ci k).2.1 (FT ci k).2.2.1
def mlW (x : Nat × Nat × Nat × Nat) : Jvm.Cond := match x with
  | (o, i, M, n) => match n with
    | 1 => Jvm.Cond.methodLinkNest (cN o) i (mY M) "ReinHall"
    | _ => Jvm.Cond.methodLink (cN o) i (mY M)
def sTx (i : Nat) : String := ["never", "goal", "rest", "bar"].getD i ""
/-- what is known of a state: classes, words of nest mates, texts, the two statics, the script -/
def XT (b : Nat) (D : va_G) (cA K V : Nat → Nat) (sc : Nat × (Nat → Int32)) (U : State) : Prop :=
  va_K D classes [(cA 0, .int), (cA 1, .boolean)] U ∧
  (∀ x ∈ flT, x.2.2.2.2 = 1 → va_Nw (flW x) U) ∧ (∀ x ∈ mlT, x.2.2.2 = 1 → va_Nw (mlW x) U) ∧
  (∀ x ∈ strT, vk_R "ReinHall$Tokens" x.1 (sTx x.2) (K x.2) U) ∧
  vk_S 4 [5, 4, 4, 3] [sBy 0, sBy 1, sBy 2, sBy 3] K V (mA0 b) U U.heap ∧
  va_Z "java/lang/String" "COMPACT_STRINGS" "Z" (.int 1) (mA0 b) U U.heap ∧
  va_Zq "jdk/internal/util/Preconditions" "SIOOBE_FORMATTER" "Ljava/util/function/BiFunction;" (mA0 b) U U.heap ∧
  va_X (K 9) sc.1 sc.2 U U.heap ∧ K 9 < b ∧ b ≤ U.heap.size
theorem flW_on (x : Nat × Nat × Nat × Nat × Nat) : (flW x).onTables = true := by
  obtain ⟨o, i, ci, k, n⟩ := x
  match n with
  | 0 => rfl
  | 1 => rfl
  | n + 2 => rfl
theorem mlW_on (x : Nat × Nat × Nat × Nat) : (mlW x).onTables = true := by
  obtain ⟨o, i, M, n⟩ := x
  match n with
  | 0 => rfl
  | 1 => rfl
  | n + 2 => rfl
theorem XT.same {b : Nat} {D : va_G} {cA K V : Nat → Nat} {sc : Nat × (Nat → Int32)} {s U : State} (h : XT b D cA K V sc s) (hv : s.vm = U.vm) (hh : U.heap = s.heap) : XT b D cA K V sc U := by
  obtain ⟨h1, h2, h3, h4, h5, h6, h7, h8, h9, h10⟩ := h
  have hal : s.vm.Alike U.vm := by rw [hv]; exact Vm.Alike.refl _
  refine ⟨h1.moved hal, fun x hx hn => (h2 x hx hn).same (flW_on x) hv, fun x hx hn => (h3 x hx hn).same (mlW_on x) hv, fun x hx => (h4 x hx).same hv.symm, ?_, ?_, ?_, ?_, h9, by rw [hh]; exact h10⟩
  · rw [hh]; exact h5.moved hal
  · rw [hh]; exact h6.moved hal
  · rw [hh]; exact h7.moved hal
  · rw [hh]; exact h8.moved hal
theorem flW_1 {x : Nat × Nat × Nat × Nat × Nat} (h : x.2.2.2.2 = 1) : flW x = Jvm.Cond.fieldLinkNest (cN x.1) x.2.1 (cN x.2.2.1) (FT x.2.2.1 x.2.2.2.1).2.1 (FT x.2.2.1 x.2.2.2.1).2.2.1 "ReinHall" := by
  obtain ⟨o, i, ci, k, n⟩ := x
  simp only at h
  subst h
  rfl
theorem mlW_1 {x : Nat × Nat × Nat × Nat} (h : x.2.2.2 = 1) : mlW x = Jvm.Cond.methodLinkNest (cN x.1) x.2.1 (mY x.2.2.1) "ReinHall" := by
  obtain ⟨o, i, M, n⟩ := x
  simp only at h
  subst h
  rfl
theorem XT.step {b : Nat} {D : va_G} {cA K V : Nat → Nat} {sc : Nat × (Nat → Int32)} {s U : State} {locs : List Loc} (h : XT b D cA K V sc s) (hW : s.WarmedH U.vm) (hS : va_S (mA0 b) s.heap U.heap locs) : XT b D cA K V sc U := by
  obtain ⟨h1, h2, h3, h4, h5, h6, h7, h8, h9, h10⟩ := h
  have hal : s.vm.Alike U.vm := hW.alike
  have hk := hS.2.1
  refine ⟨h1.moved hal, fun x hx hn => ?_, fun x hx hn => ?_, fun x hx => (h4 x hx).warm hW, (h5.moved hal).kept hk, (h6.moved hal).kept hk, (h7.moved hal).kept hk, (h8.moved hal).kept ?_, h9, Nat.le_trans h10 hS.1⟩
  · have hz := h2 x hx hn
    rw [flW_1 hn] at hz ⊢
    exact hz.warmF hW
  · have hz := h3 x hx hn
    rw [mlW_1 hn] at hz ⊢
    exact hz.warmM hW
  · exact hk _ (Nat.lt_of_lt_of_le h9 h10) (Nat.not_le.mpr h9)
theorem mv_cat (b : Nat) (K : Nat → Nat) (v : Value) : (mv b K v).category = v.category := by cases v <;> rfl
theorem mCat_map (b : Nat) (K : Nat → Nat) (st : List Value) : ((st.map (mv b K)).map fun v => v.category).sum = mCat st := by
  rw [mCat, List.map_map]
  congr 1
  exact List.map_congr_left fun v _ => mv_cat b K v
theorem lv_room' {m : MethodId} {pc : Nat} {ls : Array Slot} {r0 : List Value} (b : Nat) (K : Nat → Nat) {st : List Value} (h : mCat st ≤ 8) : 2 * (F0 m pc ls r0).monitorRoom + ((st.map (mv b K)).map fun v => v.category).sum ≤ 8 := by
  rw [mCat_map]
  show 2 * 0 + _ ≤ 8
  omega
theorem va_P_one {D : va_G} {q : Nat × va_E} {H : Heap} (h : va_at D classes q H) : va_P D classes [q] H := by
  intro k z hk
  cases k with
  | zero => cases hk; exact h
  | succ k => simp at hk
/-- the listed values of the locals -/
def lvl (b : Nat) (K : Nat → Nat) (ls : mL) : List (Nat × Value) := (List.range ls.length).filterMap fun i => match ls[i]? with
  | some (some v) => some (i, mv b K v)
  | _ => none
theorem lvl_mem {b : Nat} {K : Nat → Nat} {ls : mL} {i : Nat} {v : Value} (h : ls[i]? = some (some v)) : (i, mv b K v) ∈ lvl b K ls := by
  refine List.mem_filterMap.mpr ⟨i, List.mem_range.mpr (List.getElem?_eq_some_iff.mp h).1, ?_⟩
  rw [h]
theorem lvl_of {b : Nat} {K : Nat → Nat} {ls : mL} {q : Nat × Value} (h : q ∈ lvl b K ls) : ∃ v, ls[q.1]? = some (some v) ∧ q.2 = mv b K v := by
  obtain ⟨i, -, hi⟩ := List.mem_filterMap.mp h
  split at hi
  · rename_i v hv
    cases hi
    exact ⟨v, hv, rfl⟩
  · cases hi
theorem mLS.has {b : Nat} {K : Nat → Nat} {lsr : Array Slot} {n : Nat} {ls : mL} (h : mLS b K lsr n ls) : lv_has lsr n (lvl b K ls) := by
  refine ⟨h.1, h.2.1, fun q hq => ?_⟩
  obtain ⟨v, h1, h2⟩ := lvl_of hq
  rw [h2]
  exact h.2.2.2 _ _ h1
theorem lclr_len (ls : mL) (i : Nat) : (lclr ls i).length = ls.length := by
  cases i with
  | zero => rfl
  | succ j =>
    rw [lclr]
    split <;> simp
theorem lclr_get {ls : mL} {i j : Nat} {v : Value} (h : (lclr ls i)[j]? = some (some v)) : ls[j]? = some (some v) ∧ ¬ (j + 1 = i ∧ v.category = 2) := by
  cases i with
  | zero => exact ⟨h, fun z => by omega⟩
  | succ k =>
    rw [lclr] at h
    split at h
    · rename_i x hx
      by_cases hj : j = k
      · subst hj
        rw [List.getElem?_set_self (List.getElem?_eq_some_iff.mp hx).1] at h
        cases h
      · rw [List.getElem?_set_ne (Ne.symm hj)] at h
        exact ⟨h, fun z => hj (by omega)⟩
    · rename_i x hx
      by_cases hj : j = k
      · subst hj
        rw [List.getElem?_set_self (List.getElem?_eq_some_iff.mp hx).1] at h
        cases h
      · rw [List.getElem?_set_ne (Ne.symm hj)] at h
        exact ⟨h, fun z => hj (by omega)⟩
    · rename_i h1 h2
      refine ⟨h, fun z => ?_⟩
      have hj : j = k := by omega
      subst hj
      cases v with
      | long x => exact h1 x h
      | double x => exact h2 x h
      | _ => exact absurd z.2 (by simp [Value.category])
theorem mLS_st1 {b : Nat} {K : Nat → Nat} {lsr lsr' : Array Slot} {n i : Nat} {ls : mL} {v : Value} (h : mLS b K lsr n ls) (h' : lv_has lsr' n ((i, mv b K v) :: (lvl b K ls).filter (fun q => !(q.1 == i) && !(q.1 + 1 == i && q.2.category == 2)))) : mLS b K lsr' n (lst1 ls i v) := by
  refine ⟨h'.1, h'.2.1, ?_, fun j w hj => ?_⟩
  · rw [lst1, List.length_set, lclr_len]
    exact h.2.2.1
  · rw [lst1] at hj
    by_cases hji : j = i
    · subst hji
      have hlt : j < (lclr ls j).length := by
        have := (List.getElem?_eq_some_iff.mp hj).1
        rwa [List.length_set] at this
      rw [List.getElem?_set_self hlt] at hj
      cases hj
      exact h'.2.2 _ List.mem_cons_self
    · rw [List.getElem?_set_ne (Ne.symm hji)] at hj
      obtain ⟨h1, h2⟩ := lclr_get hj
      refine h'.2.2 (j, mv b K w) (List.mem_cons_of_mem _ (List.mem_filter.mpr ⟨lvl_mem h1, ?_⟩))
      simp only [mv_cat]
      by_cases hz : j + 1 = i
      · have : ¬ w.category = 2 := fun z => h2 ⟨hz, z⟩
        simp [hji, this]
      · simp [hji, hz]
theorem mLS_st2 {b : Nat} {K : Nat → Nat} {lsr lsr' : Array Slot} {n i : Nat} {ls : mL} {v : Value} (h : mLS b K lsr n ls) (h' : lv_has lsr' n ((i, mv b K v) :: (lvl b K ls).filter (fun q => !(q.1 == i) && (!(q.1 == i + 1) && !(q.1 + 1 == i && q.2.category == 2))))) : mLS b K lsr' n (lst2 ls i v) := by
  refine ⟨h'.1, h'.2.1, ?_, fun j w hj => ?_⟩
  · rw [lst2, List.length_set, List.length_set, lclr_len]
    exact h.2.2.1
  · rw [lst2] at hj
    by_cases hj1 : j = i + 1
    · subst hj1
      have hlt := (List.getElem?_eq_some_iff.mp hj).1
      rw [List.length_set] at hlt
      rw [List.getElem?_set_self hlt] at hj
      cases hj
    · rw [List.getElem?_set_ne (Ne.symm hj1)] at hj
      by_cases hji : j = i
      · subst hji
        have hlt : j < (lclr ls j).length := by
          have := (List.getElem?_eq_some_iff.mp hj).1
          rwa [List.length_set] at this
        rw [List.getElem?_set_self hlt] at hj
        cases hj
        exact h'.2.2 _ List.mem_cons_self
      · rw [List.getElem?_set_ne (Ne.symm hji)] at hj
        obtain ⟨h1, h2⟩ := lclr_get hj
        refine h'.2.2 (j, mv b K w) (List.mem_cons_of_mem _ (List.mem_filter.mpr ⟨lvl_mem h1, ?_⟩))
        simp only [mv_cat]
        by_cases hz : j + 1 = i
        · have : ¬ w.category = 2 := fun z => h2 ⟨hz, z⟩
          simp [hji, hj1, this]
        · simp [hji, hz, hj1]
theorem Rel_set {b : Nat} {D : va_G} {cA K : Nat → Nat} {σ : mS} {H H1 : Heap} {t : Nat} {e0 e : mE} (hR : Rel b D cA K σ H) (h0 : σ.1 t = some e0) (he : va_at D classes (b + t, mc b cA K e) H1) (hz : H1.size = H.size) (oq : ∀ q : Nat, q ≠ b + t → H1[q]? = H[q]?) : Rel b D cA K (mset σ t e) H1 := by
  refine ⟨by rw [hz]; exact hR.1, fun k e' hk => ?_⟩
  simp only [mset, hu] at hk ⊢
  by_cases hkt : k = t
  · subst hkt
    rw [if_pos rfl] at hk
    cases hk
    exact ⟨(hR.2 _ _ h0).1, he⟩
  · rw [if_neg hkt] at hk
    obtain ⟨h1, h2⟩ := hR.2 k e' hk
    exact ⟨h1, h2.kept (oq _ (by show b + k ≠ b + t; omega))⟩
theorem Rel_new {b : Nat} {D : va_G} {cA K : Nat → Nat} {σ : mS} {H H1 : Heap} {e : mE} {n : Nat} (hR : Rel b D cA K σ H) (he : va_at D classes (b + σ.2.1, mc b cA K e) H1) (hz : H1.size = H.size + 1) (oq : ∀ q : Nat, q < H.size → H1[q]? = H[q]?) : Rel b D cA K (mnew σ e n) H1 := by
  refine ⟨by rw [hz, hR.1]; rfl, fun k e' hk => ?_⟩
  simp only [mnew, hu] at hk ⊢
  by_cases hkt : k = σ.2.1
  · subst hkt
    rw [if_pos rfl] at hk
    cases hk
    exact ⟨Nat.lt_succ_self _, he⟩
  · rw [if_neg hkt] at hk
    obtain ⟨h1, h2⟩ := hR.2 k e' hk
    exact ⟨Nat.lt_succ_of_lt h1, h2.kept (oq _ (by rw [hR.1]; show b + k < b + _; omega))⟩
theorem opI_some {α : Type} {st : List Value} {K : Int32 → List Value → Option α} {z : α} (h : opI st K = some z) : ∃ x r, st = .int x :: r ∧ K x r = some z := by
  unfold opI at h
  split at h
  · exact ⟨_, _, rfl, h⟩
  · cases h
theorem opII_some {α : Type} {st : List Value} {K : Int32 → Int32 → List Value → Option α} {z : α} (h : opII st K = some z) : ∃ x y r, st = .int y :: .int x :: r ∧ K x y r = some z := by
  unfold opII at h
  split at h
  · exact ⟨_, _, _, rfl, h⟩
  · cases h
theorem opL_some {α : Type} {st : List Value} {K : Int64 → List Value → Option α} {z : α} (h : opL st K = some z) : ∃ x r, st = .long x :: r ∧ K x r = some z := by
  unfold opL at h
  split at h
  · exact ⟨_, _, rfl, h⟩
  · cases h
theorem opLL_some {α : Type} {st : List Value} {K : Int64 → Int64 → List Value → Option α} {z : α} (h : opLL st K = some z) : ∃ x y r, st = .long y :: .long x :: r ∧ K x y r = some z := by
  unfold opLL at h
  split at h
  · exact ⟨_, _, _, rfl, h⟩
  · cases h
theorem opLI_some {α : Type} {st : List Value} {K : Int64 → Int32 → List Value → Option α} {z : α} (h : opLI st K = some z) : ∃ x y r, st = .int y :: .long x :: r ∧ K x y r = some z := by
  unfold opLI at h
  split at h
  · exact ⟨_, _, _, rfl, h⟩
  · cases h
theorem opR_some {α : Type} {st : List Value} {K : Nat → List Value → Option α} {z : α} (h : opR st K = some z) : ∃ x r, st = .ref x :: r ∧ K x r = some z := by
  unfold opR at h
  split at h
  · exact ⟨_, _, rfl, h⟩
  · cases h
theorem opV_some {α : Type} {st : List Value} {K : Value → List Value → Option α} {z : α} (h : opV st K = some z) : ∃ x r, st = x :: r ∧ K x r = some z := by
  unfold opV at h
  split at h
  · exact ⟨_, _, rfl, h⟩
  · cases h
theorem lvI_some {α : Type} {ls : mL} {i : Nat} {K : Int32 → Option α} {z : α} (h : lvI ls i K = some z) : ∃ x, ls[i]? = some (some (.int x)) ∧ K x = some z := by
  unfold lvI at h
  split at h
  · rename_i x hx
    exact ⟨x, hx, h⟩
  · cases h
theorem lvL_some {α : Type} {ls : mL} {i : Nat} {K : Int64 → Option α} {z : α} (h : lvL ls i K = some z) : ∃ x, ls[i]? = some (some (.long x)) ∧ K x = some z := by
  unfold lvL at h
  split at h
  · rename_i x hx
    exact ⟨x, hx, h⟩
  · cases h
theorem lvR_some {α : Type} {ls : mL} {i : Nat} {K : Value → Option α} {z : α} (h : lvR ls i K = some z) : ∃ v, (∃ x, v = .ref x) ∧ ls[i]? = some (some v) ∧ K v = some z ∨ (∃ x, v = .float x) ∧ ls[i]? = some (some v) ∧ K v = some z := by
  unfold lvR at h
  split at h
  · rename_i x hx
    exact ⟨_, Or.inl ⟨⟨x, rfl⟩, hx, h⟩⟩
  · rename_i x hx
    exact ⟨_, Or.inr ⟨⟨x, rfl⟩, hx, h⟩⟩
  · cases h
theorem gfK_some {α : Type} {x : Option mE} {ci k : Nat} {K : Value → Option α} {z : α} (h : gfK x ci k K = some z) : ∃ fs v, x = some (.inr (ci, fs)) ∧ fs[k]? = some v ∧ K v = some z := by
  unfold gfK at h
  split at h
  · rename_i c fs
    split at h
    · rename_i hc
      subst hc
      split at h
      · rename_i v hv
        exact ⟨fs, v, rfl, hv, h⟩
      · cases h
    · cases h
  · cases h
theorem pfK_some {α : Type} {x : Option mE} {ci k : Nat} {v : Value} {K : mE → Option α} {z : α} (h : pfK x ci k v K = some z) : ∃ fs, x = some (.inr (ci, fs)) ∧ k < fs.length ∧ K (.inr (ci, fs.set k v)) = some z := by
  unfold pfK at h
  split at h
  · rename_i c fs
    split at h
    · rename_i hc
      obtain ⟨hc, hk⟩ := hc
      subst hc
      exact ⟨fs, rfl, hk, h⟩
    · cases h
  · cases h
theorem alK_some {α : Type} {x : Option mE} {t : Nat} {i : Int32} {K : Int32 → Option α} {z : α} (h : alK x t i K = some z) : ∃ n f, x = some (.inl (t, n, f)) ∧ vp_in i n ∧ K (f i.toNatClampNeg) = some z := by
  unfold alK at h
  split at h
  · rename_i t' n f
    split at h
    · rename_i hc
      obtain ⟨hc, hk⟩ := hc
      subst hc
      exact ⟨n, f, rfl, hk, h⟩
    · cases h
  · cases h
theorem asK_some {α : Type} {x : Option mE} {t : Nat} {i v : Int32} {K : mE → Option α} {z : α} (h : asK x t i v K = some z) : ∃ n f, x = some (.inl (t, n, f)) ∧ vp_in i n ∧ K (.inl (t, n, upd f i.toNatClampNeg v)) = some z := by
  unfold asK at h
  split at h
  · rename_i t' n f
    split at h
    · rename_i hc
      obtain ⟨hc, hk⟩ := hc
      subst hc
      exact ⟨n, f, rfl, hk, h⟩
    · cases h
  · cases h
theorem lnK_some {α : Type} {x : Option mE} {K : Int32 → Option α} {z : α} (h : lnK x K = some z) : ∃ n f, x = some (.inl (0, n, f)) ∧ K (Int32.ofNat n) = some z := by
  unfold lnK at h
  split at h
  · rename_i t n f
    split at h
    · rename_i ht
      subst ht
      exact ⟨n, f, rfl, h⟩
    · cases h
  · cases h
theorem isC_some {α : Type} {x : Option mE} {ci : Nat} {K : Option α} {z : α} (h : isC x ci K = some z) : ∃ fs, x = some (.inr (ci, fs)) ∧ K = some z := by
  unfold isC at h
  split at h
  · rename_i c fs
    split at h
    · rename_i hc
      subst hc
      exact ⟨fs, rfl, h⟩
    · cases h
  · cases h
theorem mpop_some : ∀ {n : Nat} {st acc as r : List Value}, mpop n st acc = some (as, r) → ∃ l : List Value, l.length = n ∧ st = l ++ r ∧ as = l.reverse ++ acc
  | 0, st, acc, as, r, h => by
    rw [mpop] at h
    cases h
    exact ⟨[], rfl, rfl, rfl⟩
  | n + 1, [], acc, as, r, h => by rw [mpop] at h; cases h
  | n + 1, v :: st, acc, as, r, h => by
    rw [mpop] at h
    obtain ⟨l, h1, h2, h3⟩ := mpop_some h
    exact ⟨v :: l, by simp [h1], by simp [h2], by simp [h3]⟩
