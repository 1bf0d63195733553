/-! A RUN of the mini machine is one of the machine: calls, returns, and the whole. -/
theorem stp_inl {ct : Nat → List Nat} {rt : Option FieldType} {q : mI} {pc pc' : Nat} {ls ls' : mL} {st st' : List Value} {σ σ' : mS} (hs : stp ct rt q pc ls st σ = some (.inl (pc', ls', st', σ'))) : σ' = σ ∨ (∃ k e, σ' = mset σ k e) ∨ ∃ e n, σ' = mnew σ e n := by
  obtain ⟨ins, len, a, b, c, d⟩ := q
  cases ins
  all_goals
    simp only [stp, opI, opII, opL, opLL, opLI, opR, opV, lvI, lvL, lvR, gfK, pfK, alK, asK, lnK, isC, mcall, mgo, mret] at hs
    repeat' split at hs
    all_goals first
      | (cases hs; done)
      | (cases hs; exact Or.inl rfl)
      | (cases hs; exact Or.inr (Or.inl ⟨_, _, rfl⟩))
      | (cases hs; exact Or.inr (Or.inr ⟨_, _, rfl⟩))
theorem stp_cnt {ct : Nat → List Nat} {rt : Option FieldType} {q : mI} {pc pc' : Nat} {ls ls' : mL} {st st' : List Value} {σ σ' : mS} (hs : stp ct rt q pc ls st σ = some (.inl (pc', ls', st', σ'))) : σ.2.1 ≤ σ'.2.1 ∧ σ.2.2.1 ≤ σ'.2.2.1 ∧ σ'.2.2.2 = σ.2.2.2 := by
  rcases stp_inl hs with rfl | ⟨k, e, rfl⟩ | ⟨e, n, rfl⟩
  · exact ⟨Nat.le_refl _, Nat.le_refl _, rfl⟩
  · exact ⟨Nat.le_refl _, Nat.le_refl _, rfl⟩
  · exact ⟨Nat.le_succ _, Nat.le_add_right _ _, rfl⟩
theorem stp_ret {ct : Nat → List Nat} {rt : Option FieldType} {ins : Instr} {len a b c d : Nat} {pc : Nat} {ls : mL} {st : List Value} {σ σ' : mS} {v : Option Value} (hs : stp ct rt (ins, len, a, b, c, d) pc ls st σ = some (.inr (.inl (v, σ')))) :
    σ' = σ ∧ ((∃ x, st = [.int x] ∧ v = some (.int x) ∧ ins = .ireturn ∧ (rt = some .int ∨ (rt = some .boolean ∧ (x = 0 ∨ x = 1)))) ∨ (∃ x, st = [.long x] ∧ v = some (.long x) ∧ ins = .lreturn ∧ rt = some .long) ∨ (st = [] ∧ v = none ∧ ins = .return_ ∧ rt = none)) := by
  cases ins
  all_goals
    simp only [stp, opI, opII, opL, opLL, opLI, opR, opV, lvI, lvL, lvR, gfK, pfK, alK, asK, lnK, isC, mcall, mgo, mret] at hs
    repeat' split at hs
    all_goals first
      | (cases hs; done)
      | (rename_i h; cases hs; exact ⟨rfl, Or.inl ⟨_, rfl, rfl, rfl, h⟩⟩)
      | (rename_i h; cases hs; exact ⟨rfl, Or.inr (Or.inl ⟨_, rfl, rfl, rfl, h⟩)⟩)
      | (rename_i h; cases hs; exact ⟨rfl, Or.inr (Or.inr ⟨rfl, rfl, rfl, h⟩)⟩)
theorem stp_call {ct : Nat → List Nat} {rt : Option FieldType} {ins : Instr} {len a b c d : Nat} {pc pc' M' : Nat} {ls ls' : mL} {st st' as : List Value} {σ σ' : mS} (hs : stp ct rt (ins, len, a, b, c, d) pc ls st σ = some (.inr (.inr (M', as, σ', pc', ls', st')))) :
    σ' = σ ∧ ls' = ls ∧ pc' = pc + 3 ∧ M' = a ∧ mCat st' ≤ 8 ∧
      ((∃ i t l fs, ins = .invokevirtual i ∧ c ≠ 7 ∧ c ≠ 8 ∧ as = .ref t :: l ∧ st = l.reverse ++ .ref t :: st' ∧ l.length = b ∧ σ.1 t = some (.inr (d, fs))) ∨
       (∃ i t l, ins = .invokespecial i ∧ c ≠ 9 ∧ as = .ref t :: l ∧ st = l.reverse ++ .ref t :: st' ∧ l.length = b) ∨
       (∃ i, ins = .invokestatic i ∧ c ≠ 4 ∧ c ≠ 5 ∧ c ≠ 6 ∧ st = as.reverse ++ st' ∧ as.length = b)) := by
  have hpop : ∀ {n : Nat} {as r : List Value}, mpop n st [] = some (as, r) → as.length = n ∧ st = as.reverse ++ r := by
    intro n as r h
    obtain ⟨l, h1, h2, h3⟩ := mpop_some h
    rw [List.append_nil] at h3
    subst h3
    exact ⟨by rw [List.length_reverse]; exact h1, by rw [List.reverse_reverse]; exact h2⟩
  cases ins
  case invokevirtual i =>
    simp only [stp, mcall] at hs
    by_cases h7 : c = 7
    · rw [if_pos h7] at hs
      split at hs
      · split at hs <;> cases hs
      · cases hs
    · rw [if_neg h7] at hs
      by_cases h8 : c = 8
      · rw [if_pos h8] at hs
        split at hs
        · split at hs <;> cases hs
        · cases hs
      · rw [if_neg h8] at hs
        split at hs
        · rename_i t l r hp
          obtain ⟨p1, p2⟩ := hpop hp
          obtain ⟨fs, hf, hs⟩ := isC_some hs
          split at hs
          · rename_i hc
            cases hs
            refine ⟨rfl, rfl, rfl, rfl, hc, Or.inl ⟨i, t, l, fs, rfl, h7, h8, rfl, ?_, ?_, hf⟩⟩
            · rw [p2, List.reverse_cons, List.append_assoc]; rfl
            · simpa using p1
          · cases hs
        · cases hs
  case invokespecial i =>
    simp only [stp, mcall] at hs
    by_cases h9 : c = 9
    · rw [if_pos h9] at hs
      obtain ⟨x, r, e9, h8⟩ := opR_some hs
      split at h8 <;> cases h8
    · rw [if_neg h9] at hs
      split at hs
      · rename_i t l r hp
        obtain ⟨p1, p2⟩ := hpop hp
        split at hs
        · rename_i hc
          cases hs
          refine ⟨rfl, rfl, rfl, rfl, hc, Or.inr (Or.inl ⟨i, t, l, rfl, h9, rfl, ?_, ?_⟩)⟩
          · rw [p2, List.reverse_cons, List.append_assoc]; rfl
          · simpa using p1
        · cases hs
      · cases hs
  case invokestatic i =>
    simp only [stp, mcall] at hs
    by_cases h4 : c = 4
    · rw [if_pos h4] at hs
      obtain ⟨x, y, r, e9, h8⟩ := opII_some hs
      split at h8 <;> cases h8
    rw [if_neg h4] at hs
    by_cases h5 : c = 5
    · rw [if_pos h5] at hs
      obtain ⟨x, y, r, e9, h8⟩ := opII_some hs
      split at h8 <;> cases h8
    rw [if_neg h5] at hs
    by_cases h6 : c = 6
    · rw [if_pos h6] at hs
      obtain ⟨x, r, e9, h8⟩ := opI_some hs
      split at h8 <;> cases h8
    rw [if_neg h6] at hs
    split at hs
    · rename_i l r hp
      obtain ⟨p1, p2⟩ := hpop hp
      split at hs
      · rename_i hc
        cases hs
        exact ⟨rfl, rfl, rfl, rfl, hc, Or.inr (Or.inr ⟨i, rfl, h4, h5, h6, p2, p1⟩)⟩
      · cases hs
    · cases hs
  all_goals
    simp only [stp, opI, opII, opL, opLL, opLI, opR, opV, lvI, lvL, lvR, gfK, pfK, alK, asK, lnK, isC, mcall, mgo, mret] at hs
    repeat' split at hs
    all_goals (cases hs; done)
theorem run_cnt : ∀ (f M pc : Nat) (ls : mL) (st : List Value) (σ : mS) (r : mR), run XX f M pc ls st σ = some r → σ.2.1 ≤ r.2.2.1 ∧ σ.2.2.1 ≤ r.2.2.2.1 ∧ r.2.2.2.2 = σ.2.2.2 := by
  intro f
  induction f with
  | zero => intro M pc ls st σ r h; simp [run] at h
  | succ f ih =>
    intro M pc ls st σ r h
    rw [run] at h
    cases hq : XX.1 M pc with
    | none => rw [hq] at h; cases h
    | some q =>
      rw [hq] at h
      simp only at h
      cases hs : stp XX.2.2.2 (XX.2.1 M) q pc ls st σ with
      | none => rw [hs] at h; cases h
      | some a =>
        rw [hs] at h
        rcases a with ⟨pc', ls', st', σ'⟩ | ⟨v', σ'⟩ | ⟨M', as, σ', pc', ls', st'⟩
        · obtain ⟨a1, a2, a3⟩ := stp_cnt hs
          obtain ⟨b1, b2, b3⟩ := ih _ _ _ _ _ _ h
          exact ⟨Nat.le_trans a1 b1, Nat.le_trans a2 b2, b3.trans a3⟩
        · obtain ⟨ins, len, a, b, c, d⟩ := q
          obtain ⟨rfl, -⟩ := stp_ret hs
          cases h
          exact ⟨Nat.le_refl _, Nat.le_refl _, rfl⟩
        · obtain ⟨ins, len, a, b, c, d⟩ := q
          obtain ⟨rfl, -⟩ := stp_call hs
          simp only at h
          split at h
          · cases h1 : run XX f M' 0 (mEnt as (XX.2.2.1 M')) [] σ' with
            | none => rw [h1] at h; cases h
            | some z =>
              rw [h1] at h
              obtain ⟨v, σ''⟩ := z
              obtain ⟨a1, a2, a3⟩ := ih _ _ _ _ _ _ h1
              obtain ⟨b1, b2, b3⟩ := ih _ _ _ _ _ _ h
              exact ⟨Nat.le_trans a1 b1, Nat.le_trans a2 b2, b3.trans a3⟩
          · cases h
def RetOK (M pc : Nat) (v : Option Value) : Prop := match v with
  | some (.int x) => decode (mB M) pc = .ok (.ireturn, 1) ∧ (mRt M = some .int ∨ (mRt M = some .boolean ∧ (x = 0 ∨ x = 1)))
  | some (.long _) => decode (mB M) pc = .ok (.lreturn, 1) ∧ mRt M = some .long
  | none => decode (mB M) pc = .ok (.return_, 1) ∧ mRt M = none
  | _ => False
def wsM (M : Nat) : List Jvm.Cond := Jvm.Cond.code (mY M) (mB M) (mLc M) (mRt M) :: TT
def rmM (M kc ks : Nat) : Room := { frames := mDp M, cells := kc, slots := ks, locals := 32 * mDp M }
def PcM (b : Nat) (D : va_G) (cA K V : Nat → Nat) (as : List Value) (σ : mS) : Array Value → State → Prop := va_Pc (as.map (mv b K)) (fun U => Rel b D cA K σ U.heap ∧ XT b D cA K V σ.2.2.2 U)
def QcM (b : Nat) (D : va_G) (cA K : Nat → Nat) (v : Option Value) (σf : mS) : Array Value → State → Outcome → State → Prop := fun _ st o t => o = .returned (v.map (mv b K)) ∧ Rel b D cA K σf t.heap ∧ va_F (mA0 b) st t
/-- what a run of f steps gives -/
def SND (b : Nat) (D : va_G) (cA K V : Nat → Nat) (l : Launch) (f : Nat) : Prop :=
  ∀ (M pc : Nat) (ls : mL) (st : List Value) (σ : mS) (v : Option Value) (σf : mS), run XX f M pc ls st σ = some (v, σf) →
  ∀ {p : Program} {e : Env} {R : Room} {s : State} {m : MethodId} {args : Array Value} {below : List Frame} {meth : Method} {c0 : Code} {H : Heap} {locs : List Loc} {kc ks : Nat} {Q : State → Prop} {lsr : Array Slot},
    CX M p R s m args meth c0 → XT b D cA K V σ.2.2.2 s → Rel b D cA K σ H → va_S (mA0 b) s.heap H locs → mLS b K lsr (mLc M) ls → kc + σf.2.1 ≤ R.cells + σ.2.1 → ks + σf.2.2.1 ≤ R.slots + σ.2.2.1 →
    (∀ (kc' ks' pc' : Nat) (H' : Heap) (locs' : List Loc) (lsr' : Array Slot), kc' + σ.2.1 = kc + σf.2.1 → ks' + σ.2.2.1 = ks + σf.2.2.1 → Rel b D cA K σf H' → va_S (mA0 b) s.heap H' locs' → RetOK M pc' v → W p l e R s m args below meth c0 H' locs' kc' ks' Q (F0 m pc' lsr' (v.toList.map (mv b K)))) →
    W p l e R s m args below meth c0 H locs kc ks Q (F0 m pc lsr (st.map (mv b K)))
theorem mSl_lg (b : Nat) (K : Nat → Nat) (as : List Value) : (lg_sl (as.map (mv b K))).length = (mSl as).length := by
  induction as with
  | nil => rfl
  | cons v as ih =>
    simp only [lg_sl, mSl, List.map_cons, List.flatMap_cons, List.length_append, mv_cat] at ih ⊢
    rw [ih]
    split <;> rfl
theorem mSl_args (b : Nat) (K : Nat → Nat) : ∀ (as : List Value) (k i : Nat) (v : Value), (mSl as)[i]? = some (some v) → (k + i, mv b K v) ∈ lv_args k (as.map (mv b K))
  | [], k, i, v, h => by simp [mSl] at h
  | w :: as, k, i, v, h => by
    have ih := mSl_args b K as
    simp only [mSl, List.flatMap_cons] at h ih
    rw [List.map_cons, lv_args]
    by_cases hc : w.category = 2
    · rw [if_pos hc] at h
      rw [mv_cat, if_pos hc]
      match i, h with
      | 0, h => cases h; exact List.mem_cons_self
      | 1, h => cases h
      | i + 2, h =>
        refine List.mem_cons_of_mem _ ?_
        have := ih (k + 2) i v (by simpa using h)
        rwa [show k + (i + 2) = k + 2 + i by omega]
    · rw [if_neg hc] at h
      rw [mv_cat, if_neg hc]
      match i, h with
      | 0, h => cases h; exact List.mem_cons_self
      | i + 1, h =>
        refine List.mem_cons_of_mem _ ?_
        have := ih (k + 1) i v (by simpa using h)
        rwa [show k + (i + 1) = k + 1 + i by omega]
theorem mLS_entry {b : Nat} {K : Nat → Nat} {as : List Value} {n : Nat} (h : (mSl as).length ≤ n) : mLS b K ((lg_sl (as.map (mv b K)) ++ List.replicate (n - (lg_sl (as.map (mv b K))).length) Slot.unset).toArray) n (mEnt as n) := by
  have h1 := lv_entry (as.map (mv b K)) (n := n) (by rw [mSl_lg]; exact h)
  refine ⟨h1.1, h1.2.1, ?_, fun i v hi => ?_⟩
  · simp only [mEnt, List.length_append, List.length_replicate]
    omega
  · have h2 : (mSl as)[i]? = some (some v) := by
      rw [mEnt] at hi
      by_cases hl : i < (mSl as).length
      · rwa [List.getElem?_append_left hl] at hi
      · rw [List.getElem?_append_right (by omega), List.getElem?_replicate] at hi
        split at hi <;> cases hi
    have h3 := mSl_args b K as 0 i v h2
    rw [Nat.zero_add] at h3
    exact h1.2.2 _ h3
theorem PcM_blind {b : Nat} {D : va_G} {cA K V : Nat → Nat} {as : List Value} {σ : mS} : FrameBlind (PcM b D cA K V as σ) := fun a U g mk h => ⟨h.1, h.2.1, h.2.2.same rfl rfl⟩
theorem met_of {b : Nat} {D : va_G} {cA K V : Nat → Nat} {l : Launch} {f : Nat} (ih : SND b D cA K V l f) {M : Nat} (hM : mfP M) {as : List Value} {σ : mS} {v : Option Value} {σf : mS} (h : run XX f M 0 (mEnt as (mLc M)) [] σ = some (v, σf)) (hl : (mSl as).length ≤ mLc M) :
    Met l (mY M) (wsM M) (rmM M (σf.2.1 - σ.2.1) (σf.2.2.1 - σ.2.2.1)) (PcM b D cA K V as σ) (QcM b D cA K v σf) (σf.2.1 - σ.2.1) (σf.2.2.1 - σ.2.2.1) (mA0 b) := by
  obtain ⟨hw1, hw2, hcl, ⟨hpl, hn1, hn2, hna, hlc⟩, hkd⟩ := hM
  obtain ⟨c1, c2, c3⟩ := run_cnt _ _ _ _ _ _ _ h
  refine Met.ofW (cc := mB M) (maxL := mLc M) (ret := mRt M) hpl rfl ?_
  intro p e s m args below meth c s₁ B hml hv
  obtain ⟨rfl, hR, X⟩ := hv
  have hts0 := atoms_spec (ws := wsM M) B.pre
  have hlocks := B.notSynchronized
  have hr := B.returns
  have C : CX M p (rmM M (σf.2.1 - σ.2.1) (σf.2.2.1 - σ.2.2.1)) s m ((as.map (mv b K)).toArray) meth c := by
    refine ⟨B.exec, B.bytes, hml, by rw [← hcl]; exact findClass_of_methodNamed B.named, fun w hw => hts0 w (List.mem_cons_of_mem _ hw), fun hk => ?_, Nat.le_refl _, Nat.le_refl _⟩
    rw [hk] at hkd
    rw [(name_of_methodNamed B.named B.method).1]
    exact hkd.2.1
  rw [lg_entry_eq]
  refine ih M 0 _ [] σ v σf h C X hR va_S.rf (mLS_entry hl) (by show 0 + σf.2.1 ≤ (σf.2.1 - σ.2.1) + σ.2.1; omega) (by show 0 + σf.2.2.1 ≤ (σf.2.2.1 - σ.2.2.1) + σ.2.2.1; omega) ?_
  intro kc' ks' pc' H' locs' lsr' e1 e2 hR' hS' hret
  have e1' : kc' = σf.2.1 - σ.2.1 := by omega
  have e2' : ks' = σf.2.2.1 - σ.2.2.1 := by omega
  subst e1'; subst e2'
  have hx := B.exec
  have hb := B.bytes
  unfold RetOK at hret
  split at hret
  · rename_i x
    obtain ⟨hdg, hrt | ⟨hrt, hx01⟩⟩ := hret
    · exact W.iret (v := x) hx hb (by rw [hr, hrt]) (fun t ht hW => ⟨rfl, by rw [ht]; exact hR', hS'.F ht⟩) hS'.2.2 hdg
    · exact W.zret (v := x) (ty := .boolean) hx hb (by rw [hr, hrt]) (by rcases hx01 with rfl | rfl <;> rfl) (fun t ht hW => ⟨rfl, by rw [ht]; exact hR', hS'.F ht⟩) hS'.2.2 hdg
  · rename_i x
    obtain ⟨hdg, hrt⟩ := hret
    exact W.lret (v := x) hx hb (by rw [hr, hrt]) (fun t ht hW => ⟨rfl, by rw [ht]; exact hR', hS'.F ht⟩) hS'.2.2 hdg
  · obtain ⟨hdg, hrt⟩ := hret
    exact W.vret hx hb (by rw [hr, hrt]) (fun t ht hW => ⟨rfl, by rw [ht]; exact hR', hS'.F ht⟩) hS'.2.2 hdg
  · exact hret.elim
section CALLM
variable {p : Program} {l : Launch} {e : Env} {R : Room} {s : State} {m : MethodId} {args : Array Value} {below : List Frame} {meth : Method} {c : Code} {H : Heap} {locs : List Loc} {kc ks : Nat} {Q : State → Prop} {pc : Nat} {ls : Array Slot} {rest st0 : List Value} {a : Array Value} {mc0 ms0 : Nat} {b : Nat} {D : va_G} {cA K : Nat → Nat}
theorem w_callM {v1 : Option Value} {σ1 : mS} (hr : va_Run p l e R s m args below meth c H locs kc ks mc0 ms0 (F0 m pc ls st0) rest (QcM b D cA K v1 σ1 a) (mA0 b)) (hS : va_S (mA0 b) s.heap H locs) (kk : ∀ H1 locs1, Rel b D cA K σ1 H1 → va_S (mA0 b) s.heap H1 locs1 → W p l e R s m args below meth c H1 locs1 (kc + mc0) (ks + ms0) Q (F0 m (pc + 3) ls ((v1.map (mv b K)).toList ++ rest))) : W p l e R s m args below meth c H locs kc ks Q (F0 m pc ls st0) := by
  intro T hT X
  obtain ⟨v, st₀, t, T', L, h0, X', hL, e1, e2, ⟨hv, hh, hz, hk⟩, st⟩ := hr T hT X
  cases hv
  rw [h0] at hz hk
  obtain ⟨t2, a1, b1⟩ := kk T'.heap (locs ++ L) (by rw [e1]; exact hh) ⟨Nat.le_trans hS.1 (by rw [e1]; exact hz), fun q h1 h2 => by rw [e1, hk q (Nat.lt_of_lt_of_le h1 hS.1) h2]; exact hS.2.1 q h1 h2, fun q hq => by
    rcases List.mem_append.mp hq with h | h
    · exact hS.2.2 q h
    · exact hL q h⟩ T' rfl X'
  exact ⟨t2, st t2 a1, b1⟩
end CALLM
theorem toL_map (b : Nat) (K : Nat → Nat) (v : Option Value) (r : List Value) : (v.map (mv b K)).toList ++ r.map (mv b K) = (v.toList ++ r).map (mv b K) := by cases v <;> simp
theorem cn_tt {args : Array Value} {s : State} {R : Room} {own host : String} {index n maxL : Nat} {y : MethodName} {bytes : ByteArray} {ret : Option FieldType} {rm : Room} (hts : ∀ w ∈ TT, w.before args s = true) (hc : Jvm.Cond.code y bytes maxL ret ∈ tables_1) (hi : Jvm.Cond.initialized y.cls ∈ tables_1) (hl : va_Nw (Jvm.Cond.methodLinkNest own index y host) s)
    (hy : y.cls ≠ "java/lang/invoke/MethodHandle" ∧ y.cls ≠ "java/lang/invoke/VarHandle") (hn : (parseMethodDescriptor y.desc).map (fun d => d.parameters.length) = some n) (hR : rm.frames + 1 ≤ R.frames ∧ 8 + (maxL + 11) + rm.locals ≤ R.locals) : va_CN R s args own index y host bytes maxL ret (Jvm.Cond.code y bytes maxL ret :: TT) rm rm.cells rm.slots n := by
  refine ⟨⟨rfl, rfl, hR.1, hR.2, tt_warm hts hc, List.mem_cons_self⟩, hts _ (tt_of hc rfl), hts _ (tt_of hi rfl), hy, fun sig h => ?_, hl.use rfl⟩
  rw [h] at hn
  exact (Option.some.inj hn).symm
theorem stack_rev (b : Nat) (K : Nat → Nat) (l r : List Value) (t : Nat) : (l.reverse ++ .ref t :: r).map (mv b K) = (l.map (mv b K)).reverse ++ .ref (b + t) :: r.map (mv b K) := by
  rw [List.map_append, List.map_reverse, List.map_cons]; rfl
theorem stack_rev0 (b : Nat) (K : Nat → Nat) (l r : List Value) : (l.reverse ++ r).map (mv b K) = (l.map (mv b K)).reverse ++ r.map (mv b K) := by
  rw [List.map_append, List.map_reverse]
theorem snd_all (b : Nat) (D : va_G) (cA K V : Nat → Nat) (l : Launch) : ∀ f, SND b D cA K V l f := by
  intro f
  induction f with
  | zero =>
    intro M pc ls st σ v σf h
    simp [run] at h
  | succ f ih =>
    intro M pc ls st σ v σf h p e R s m args below meth c0 H locs kc ks Q lsr C X hR hS hL hkc hks hret
    have hall := run_cnt _ _ _ _ _ _ _ h
    rw [run] at h
    cases hq : XX.1 M pc with
    | none => rw [hq] at h; cases h
    | some q =>
      rw [hq] at h
      simp only at h
      obtain ⟨hM, hok⟩ := cod_ok hq
      cases hs : stp XX.2.2.2 (XX.2.1 M) q pc ls st σ with
      | none => rw [hs] at h; cases h
      | some a =>
        rw [hs] at h
        rcases a with ⟨pc', ls', st', σ'⟩ | ⟨v', σ'⟩ | ⟨M', as, σ', pc', ls', st'⟩
        · simp only at h
          obtain ⟨a1, a2, a3⟩ := stp_cnt hs
          obtain ⟨b1, b2, b3⟩ := run_cnt _ _ _ _ _ _ _ h
          simp only at b1 b2 b3
          refine snd_go C X hok hs hR hS hL (by omega) (by omega) fun kc' ks' H' locs' lsr' e1 e2 e3 hR' hS' hL' => ?_
          exact ih M pc' ls' st' σ' v σf h C (by rw [e3]; exact X) hR' hS' hL' (by omega) (by omega) (fun kc2 ks2 pc2 H2 locs2 lsr2 g1 g2 g3 g4 g5 => hret kc2 ks2 pc2 H2 locs2 lsr2 (by omega) (by omega) g3 g4 g5)
        · simp only at h
          obtain ⟨ins, len, a, b1, c, d⟩ := q
          obtain ⟨hdg, hlen, -⟩ := okq_dec hok
          obtain ⟨rfl, hc⟩ := stp_ret hs
          cases h
          rcases hc with ⟨x, rfl, rfl, rfl, hx⟩ | ⟨x, rfl, rfl, rfl, hx⟩ | ⟨rfl, rfl, rfl, hx⟩
          · have hlen : 1 = len := by rcases hlen with h | h; (exact absurd (show (1 : Nat) = 0 from h) (by decide)); exact h
            subst hlen
            exact hret kc ks pc H locs lsr rfl rfl hR hS ⟨hdg, hx⟩
          · have hlen : 1 = len := by rcases hlen with h | h; (exact absurd (show (1 : Nat) = 0 from h) (by decide)); exact h
            subst hlen
            exact hret kc ks pc H locs lsr rfl rfl hR hS ⟨hdg, hx⟩
          · have hlen : 1 = len := by rcases hlen with h | h; (exact absurd (show (1 : Nat) = 0 from h) (by decide)); exact h
            subst hlen
            exact hret kc ks pc H locs lsr rfl rfl hR hS ⟨hdg, hx⟩
        · simp only at h
          obtain ⟨ins, len, a, b1, c, d⟩ := q
          obtain ⟨hdg, hlen, hoka⟩ := okq_dec hok
          obtain ⟨rfl, rfl, rfl, rfl, hcat, hc⟩ := stp_call hs
          split at h
          case isFalse => cases h
          rename_i hl
          cases h1 : run XX f M' 0 (mEnt as (XX.2.2.1 M')) [] σ' with
          | none => rw [h1] at h; cases h
          | some z =>
            rw [h1] at h
            obtain ⟨v1, σ1⟩ := z
            simp only at h
            obtain ⟨a1, a2, a3⟩ := run_cnt _ _ _ _ _ _ _ h1
            obtain ⟨b1', b2', b3'⟩ := run_cnt _ _ _ _ _ _ _ h
            simp only at a1 a2 a3 b1' b2' b3'
            have C' := C
            obtain ⟨hx, hb, hml, hown, hts, hin2, hRf, hRl⟩ := C
            have fin : ∀ (rest : List Value) (_ : Unit) (aa : Array Value), rest = st'.map (mv b K) → va_Run p l e R s m args below meth c0 H locs kc ks (σ1.2.1 - σ'.2.1) (σ1.2.2.1 - σ'.2.2.1) (F0 m pc lsr (st.map (mv b K))) rest (QcM b D cA K v1 σ1 aa) (mA0 b) → W p l e R s m args below meth c0 H locs kc ks Q (F0 m pc lsr (st.map (mv b K))) := by
              intro rest _ aa hrest hrun
              subst hrest
              refine w_callM hrun hS fun H1 locs1 hR1 hS1 => ?_
              rw [toL_map]
              exact ih M (pc + 3) ls' (v1.toList ++ st') σ1 v σf h C' (by rw [a3]; exact X) hR1 hS1 hL (by omega) (by omega) (fun kc2 ks2 pc2 H2 locs2 lsr2 g1 g2 g3 g4 g5 => hret kc2 ks2 pc2 H2 locs2 lsr2 (by omega) (by omega) g3 g4 g5)
            have hpre : ∀ U : State, U.heap = H → s.WarmedH U.vm → PcM b D cA K V as σ' (as.map (mv b K)).toArray U := fun U hU hW => ⟨rfl, by rw [hU]; exact hR, X.step hW (by rw [hU]; exact hS)⟩
            have hbnd : kc + (σ1.2.1 - σ'.2.1) ≤ R.cells ∧ ks + (σ1.2.2.1 - σ'.2.2.1) ≤ R.slots := ⟨by omega, by omega⟩
            rcases hc with ⟨i, t, as', fs, rfl, h7, h8, rfl, hst, hlen2, hobj⟩ | ⟨i, t, as', rfl, h9, rfl, hst, hlen2⟩ | ⟨i, rfl, h4, h5, h6, hst, hlen2⟩
            · have hlen : 3 = len := by rcases hlen with h | h; (exact absurd (show (3 : Nat) = 0 from h) (by decide)); exact h
              subst hlen
              simp only [oka, nbeq_f h7, nbeq_f h8, cond_false, Bool.and_eq_true, Nat.beq_eq] at hoka
              obtain ⟨⟨⟨⟨⟨o1, o2⟩, o3⟩, o4⟩, o5⟩, o6⟩ := hoka
              have hMa := mf_ok M' (Nat.le_of_ble_eq_true o5)
              have hdep := Nat.le_of_ble_eq_true o4
              have hm := met_of ih hMa h1 hl
              obtain ⟨hw1, hw2, hcl, ⟨hpl, hn1, hn2, hna, hlc⟩, hkd⟩ := hMa
              rw [o2] at hkd
              obtain ⟨hk1, hk2, hk3⟩ := hkd
              rw [o3] at hna
              obtain ⟨hlk1, hlk2⟩ := mlW_ok hts X.2.2.1 (in4_mem o1)
              have hd9 : d < 9 := by rw [← o6]; exact hk3
              have hat : va_at D classes (b + t, .inr (d, fs.map (mv b K))) H := (hR.2 t _ hobj).2
              have hrcv := va_recv X.1 (va_P_one hat) (ft_cls hd9) (q0 := 0) rfl
              have hpv : PreV s H (mY M').cls (b + t) (PcM b D cA K V (.ref t :: as') σ') (as'.map (mv b K)) := ⟨PcM_blind, by rw [hcl, o6]; exact hrcv, hpre⟩
              have hstk : (F0 m pc lsr (st.map (mv b K))).stack = (as'.map (mv b K)).reverse ++ .ref (b + t) :: st'.map (mv b K) := by
                show st.map (mv b K) = _
                rw [hst, stack_rev]
              by_cases hn : c = 1
              · exact fin _ () _ rfl (va_runVN (As := as'.map (mv b K)) (rest := st'.map (mv b K)) ⟨hx, hb, hml, hown, hts⟩ hm ⟨cn_tt (n := b1) hts hw1 hw2 (hlk1 hn) ⟨hn1, hn2⟩ hna ⟨by show mDp M' + 1 ≤ _; omega, by show 8 + (mLc M' + 11) + 32 * mDp M' ≤ _; omega⟩, hts _ (tt_of hk1 rfl), hts _ (tt_of' hk2 rfl)⟩ hpv rfl (by rw [List.length_map]; exact hlen2) hL.1 hstk (lv_room' b K hcat) hdg hbnd)
              · exact fin _ () _ rfl (va_runV (As := as'.map (mv b K)) (rest := st'.map (mv b K)) ⟨hx, hb, hml, hown, hts⟩ hm ⟨callB_tt (n := b1) hts hw1 hw2 (hlk2 hn) ⟨hn1, hn2⟩ hna ⟨by show mDp M' + 1 ≤ _; omega, by show 8 + (mLc M' + 11) + 32 * mDp M' ≤ _; omega⟩, hts _ (tt_of hk1 rfl), hts _ (tt_of' hk2 rfl)⟩ hpv rfl (by rw [List.length_map]; exact hlen2) hL.1 hstk (lv_room' b K hcat) hdg hbnd)
            · have hlen : 3 = len := by rcases hlen with h | h; (exact absurd (show (3 : Nat) = 0 from h) (by decide)); exact h
              subst hlen
              simp only [oka, nbeq_f h9, cond_false, Bool.and_eq_true, Nat.beq_eq] at hoka
              obtain ⟨⟨⟨⟨o1, o2⟩, o3⟩, o4⟩, o5⟩ := hoka
              have hMa := mf_ok M' (Nat.le_of_ble_eq_true o5)
              have hdep := Nat.le_of_ble_eq_true o4
              have hm := met_of ih hMa h1 hl
              obtain ⟨hw1, hw2, hcl, ⟨hpl, hn1, hn2, hna, hlc⟩, hkd⟩ := hMa
              rw [o2] at hkd
              obtain ⟨hk1, hk2, hk3⟩ := hkd
              rw [o3] at hna
              obtain ⟨hlk1, hlk2⟩ := mlW_ok hts X.2.2.1 (in4_mem o1)
              have hpv : PreS s H (PcM b D cA K V (.ref t :: as') σ') (.ref (b + t) :: as'.map (mv b K)) := ⟨PcM_blind, hpre⟩
              have hstk : (F0 m pc lsr (st.map (mv b K))).stack = (as'.map (mv b K)).reverse ++ .ref (b + t) :: st'.map (mv b K) := by
                show st.map (mv b K) = _
                rw [hst, stack_rev]
              unfold wsM at hm
              rw [hk3] at hm hw1
              by_cases hn : c = 1
              · exact fin _ () _ rfl (va_runIN (As := as'.map (mv b K)) (rest := st'.map (mv b K)) ⟨hx, hb, hml, hown, hts⟩ hm ⟨cn_tt (n := b1) hts hw1 hw2 (hlk1 hn) ⟨hn1, hn2⟩ hna ⟨by show mDp M' + 1 ≤ _; omega, by show 8 + (mLc M' + 11) + 32 * mDp M' ≤ _; omega⟩, hk2, hts _ (tt_of hk1 rfl)⟩ hpv rfl (by rw [List.length_map]; exact hlen2) hL.1 hstk (lv_room' b K hcat) hdg hbnd)
              · exact fin _ () _ rfl (va_runI (As := as'.map (mv b K)) (rest := st'.map (mv b K)) ⟨hx, hb, hml, hown, hts⟩ hm ⟨callB_tt (n := b1) hts hw1 hw2 (hlk2 hn) ⟨hn1, hn2⟩ hna ⟨by show mDp M' + 1 ≤ _; omega, by show 8 + (mLc M' + 11) + 32 * mDp M' ≤ _; omega⟩, hk2, hts _ (tt_of hk1 rfl)⟩ hpv rfl (by rw [List.length_map]; exact hlen2) hL.1 hstk (lv_room' b K hcat) hdg hbnd)
            · have hlen : 3 = len := by rcases hlen with h | h; (exact absurd (show (3 : Nat) = 0 from h) (by decide)); exact h
              subst hlen
              have hble : Nat.ble 4 c = false ∨ 7 ≤ c := by
                cases hz : Nat.ble 4 c with
                | false => exact Or.inl rfl
                | true => exact Or.inr (by have := Nat.le_of_ble_eq_true hz; omega)
              rcases hble with hble | hble
              case inr =>
                exfalso
                have hz : Nat.ble 4 c = true := Nat.ble_eq_true_of_le (by omega)
                simp only [oka, hz, cond_true, Bool.and_eq_true] at hoka
                have hm := in3_mem hoka.1
                have hall : ∀ x ∈ maT, x.2.2 < 7 := by decide
                have := hall _ hm
                simp only at this
                omega
              simp only [oka, hble, cond_false, Bool.and_eq_true, Nat.beq_eq] at hoka
              obtain ⟨⟨⟨⟨o1, o2⟩, o3⟩, o4⟩, o5⟩ := hoka
              have hMa := mf_ok M' (Nat.le_of_ble_eq_true o5)
              have hdep := Nat.le_of_ble_eq_true o4
              have hm := met_of ih hMa h1 hl
              obtain ⟨hw1, hw2, hcl, ⟨hpl, hn1, hn2, hna, hlc⟩, hkd⟩ := hMa
              rw [o2] at hkd
              have hkd : Jvm.Cond.static (mY M') ∈ tables_1 := hkd
              rw [o3] at hna
              obtain ⟨hlk1, hlk2⟩ := mlW_ok hts X.2.2.1 (in4_mem o1)
              have hpv : PreS s H (PcM b D cA K V as σ') (as.map (mv b K)) := ⟨PcM_blind, hpre⟩
              have hstk : (F0 m pc lsr (st.map (mv b K))).stack = (as.map (mv b K)).reverse ++ st'.map (mv b K) := by
                show st.map (mv b K) = _
                rw [hst, stack_rev0]
              by_cases hn : c = 1
              · exact fin _ () _ rfl (va_runSN (As := as.map (mv b K)) (rest := st'.map (mv b K)) ⟨hx, hb, hml, hown, hts⟩ hm ⟨cn_tt (n := b1) hts hw1 hw2 (hlk1 hn) ⟨hn1, hn2⟩ hna ⟨by show mDp M' + 1 ≤ _; omega, by show 8 + (mLc M' + 11) + 32 * mDp M' ≤ _; omega⟩, hts _ (tt_of hkd rfl), trivial⟩ hpv rfl (by rw [List.length_map]; exact hlen2) hL.1 hstk (lv_room' b K hcat) hdg hbnd)
              · exact fin _ () _ rfl (va_runS (As := as.map (mv b K)) (rest := st'.map (mv b K)) ⟨hx, hb, hml, hown, hts⟩ hm ⟨callB_tt (n := b1) hts hw1 hw2 (hlk2 hn) ⟨hn1, hn2⟩ hna ⟨by show mDp M' + 1 ≤ _; omega, by show 8 + (mLc M' + 11) + 32 * mDp M' ≤ _; omega⟩, hts _ (tt_of hkd rfl)⟩ hpv rfl (by rw [List.length_map]; exact hlen2) hL.1 hstk (lv_room' b K hcat) hdg hbnd)
