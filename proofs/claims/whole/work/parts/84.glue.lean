/-! THE CLAIM OUT OF ONE WALK OF THE LAW'S BODY. Your part is whole_start (and what it stands on); all else here is the same for every law, but numbers. -/
def R_law : String := "ReinHallLaw"
def lw_P (b : Addr) (xs : List Int32) (args : Array Value) (s : State) : Prop := args = #[.ref b] ∧ s.IntsAt b xs ∧ xs.length ≤ 3072 ∧ (Jvm.Cond.and given_1 narrow_1).before args s = true
def lw_Q (_ : Array Value) (s : State) (o : Outcome) (t : State) : Prop := o = .returned (some (.int 1)) ∧ Framed s o t [] 600000 7302250
def lw_Z (below : List Frame) (a : Array Value) (s : State) : State → Prop := fun t => ∃ o, t.status = .running ∧ Ended t below o ∧ lw_Q a s o t
/-- the law's own end, with 1 on the stack, nothing written that was there before, its room as the claim has it -/
theorem lw_ret {p : Program} {l : Launch} {e : Env} {s : State} {m : MethodId} {below : List Frame} {meth : Method} {c : Code} {b : Nat} (hx : p.tables.exec = Jvm.exec) (hb : c.code = code) (hr : meth.sig.returnType = ret) (hlocks : meth.locks = false) {pc : Nat} {H : Heap} {ls : Array Slot} (hdg : decode code pc = .ok (.ireturn, 1)) : W p l e room_1 s m #[Value.ref b] below meth c H [] 600000 7302250 (lw_Z below #[Value.ref b] s) (F0 m pc ls [.int 1]) := by
  intro T hT X
  obtain ⟨fs, hret, hrun, hended, hW, hframe⟩ := X.leave (v := some (.int 1)) (hlocks := hlocks) (fun h => by rw [hr] at h; cases h)
  have hmeth' : T.vm.method? m = some meth := X.method'
  refine ⟨T.setFrames fs, ?_, .returned (some (.int 1)), hrun, hended, rfl, ⟨_, rfl⟩, hW, hframe⟩
  jvm_step X.here [X.here.top, hx, hb, hdg, hmeth', hr, ret, narrow_b1]
  (try refine ⟨rfl, ?_⟩); (try refine ⟨rfl, ?_⟩)
  first | (intro acts; rw [hret _ acts rfl rfl rfl]) | rw [hret _ _ rfl rfl rfl]
  exact Steps.refl _
/-- what holds at the law's entry: the machine, the code, the tables' words (any of lw_tbl by 'hts w (by decide +kernel)'), the script of L ints xs at the cell b, what the Statement gives of the start (any of its parts by flat_of_before) -/
def lw_At (p : Program) (s : State) (m : MethodId) (meth : Method) (c : Code) (b L : Nat) (xs : Nat → Int32) : Prop :=
  p.tables.exec = Jvm.exec ∧ c.code = code ∧ meth.sig.returnType = ret ∧ c.maxLocals = 4 ∧ s.vm.findClass R_law = some m.cls ∧ (∀ w ∈ lw_tbl, w.before #[Value.ref b] s = true) ∧ va_X b L xs s s.heap ∧ b < s.heap.size ∧ meth.locks = false ∧ (Jvm.Cond.and given_1 narrow_1).before #[Value.ref b] s = true
/-- what the start of the law gives to the mini machine -/
theorem ws_XT {s : State} {b L : Nat} {xs : Nat → Int32} (hts : ∀ w ∈ lw_tbl, w.before #[Value.ref b] s = true) (hX : va_X b L xs s s.heap) (hbl : b < s.heap.size) (hgv : (Jvm.Cond.and given_1 narrow_1).before #[Value.ref b] s = true) : ∃ (D : va_G) (cA K V : Nat → Nat), K 9 = b ∧ XT s.heap.size D cA K V (L, xs) s := by
  have hfl := flat_of_before _ hgv
  have htt : ∀ w ∈ TT, w.before #[Value.ref b] s = true := fun w hw => hts w (List.mem_filter.mp hw).1
  have htb : ∀ w ∈ tables_1, w.before #[Value.ref b] s = true := fun w hw => hts w (List.mem_append_right _ hw)
  have hA : ∀ a : Nat, a < s.heap.size → ¬ mA0 s.heap.size a := fun a h => Nat.not_le.mpr h
  have hkn : ∀ ci : Nat, ∃ q : ClassId × (Nat → Nat), ci < 9 → u_Kn s (cN ci) (FT ci) (fNm ci) q.1 q.2 := fun ci => by
    by_cases hci : ci < 9
    · obtain ⟨o, i, hm⟩ : ∃ o i, (o, i, ci) ∈ newT := by
        match ci, hci with
        | 0, _ => exact ⟨7, 33, by decide⟩
        | 1, _ => exact ⟨7, 16, by decide⟩
        | 2, _ => exact ⟨6, 39, by decide⟩
        | 3, _ => exact ⟨0, 9, by decide⟩
        | 4, _ => exact ⟨7, 7, by decide⟩
        | 5, _ => exact ⟨1, 9, by decide⟩
        | 6, _ => exact ⟨7, 23, by decide⟩
        | 7, _ => exact ⟨11, 7, by decide⟩
        | 8, _ => exact ⟨11, 10, by decide⟩
        | n + 9, h => exact absurd h (by omega)
      have hn := nw_ok _ hm
      obtain ⟨cC, iS, h⟩ := u_known (u_ws_ok htt hci) (fun w h => h) (htb _ hn.2.1)
      exact ⟨(cC, iS), fun _ => h⟩
    · obtain ⟨cC, iS, h⟩ := u_known (u_ws_ok htt (ci := 0) (by decide)) (fun w h => h) (htb _ (nw_ok (7, 33, 0) (by decide)).2.1)
      exact ⟨(cC, iS), fun h => absurd h hci⟩
  obtain ⟨dD, hdD⟩ := Classical.axiomOfChoice hkn
  obtain ⟨c0, k0, p0, g1, g2, g3⟩ := Cond.arrayClass_spec (htb _ aw_int)
  obtain ⟨c1, k1, p1, g4, g5, g6⟩ := Cond.arrayClass_spec (htb _ aw_bool)
  obtain ⟨K0, V, hS, hK0⟩ := vk_Sof (args := #[Value.ref b]) (s := s) (N := 4) (tm := fun i => Term.string "ReinHall$Tokens" ([75, 81, 83, 85].getD i 0)) (len := [5, 4, 4, 3]) (byt := [sBy 0, sBy 1, sBy 2, sBy 3]) (A := mA0 s.heap.size)
    (fun i hi => by
    match i, hi with
    | 0, _ => decide
    | 1, _ => decide
    | 2, _ => decide
    | 3, _ => decide
    | i + 4, hi => exact absurd hi (by omega))
    (fun i hi => by
    match i, hi with
    | 0, _ => exact hfl _ (by decide +kernel)
    | 1, _ => exact hfl _ (by decide +kernel)
    | 2, _ => exact hfl _ (by decide +kernel)
    | 3, _ => exact hfl _ (by decide +kernel)
    | i + 4, hi => exact absurd hi (by omega))
    (fun i hi => by
    match i, hi with
    | 0, _ => exact hfl _ (by decide +kernel)
    | 1, _ => exact hfl _ (by decide +kernel)
    | 2, _ => exact hfl _ (by decide +kernel)
    | 3, _ => exact hfl _ (by decide +kernel)
    | i + 4, hi => exact absurd hi (by omega))
    (fun i hi => by
    match i, hi with
    | 0, _ => exact hfl _ (by decide +kernel)
    | 1, _ => exact hfl _ (by decide +kernel)
    | 2, _ => exact hfl _ (by decide +kernel)
    | 3, _ => exact hfl _ (by decide +kernel)
    | i + 4, hi => exact absurd hi (by omega))
    (fun i hi => by
    match i, hi with
    | 0, _ => exact hfl _ (by decide +kernel)
    | 1, _ => exact hfl _ (by decide +kernel)
    | 2, _ => exact hfl _ (by decide +kernel)
    | 3, _ => exact hfl _ (by decide +kernel)
    | i + 4, hi => exact absurd hi (by omega))
    (fun i hi j hj => by
    match i, hi with
    | 0, _ =>
      match j, hj with
      | 0, _ => exact hfl _ (by decide +kernel)
      | 1, _ => exact hfl _ (by decide +kernel)
      | 2, _ => exact hfl _ (by decide +kernel)
      | 3, _ => exact hfl _ (by decide +kernel)
      | 4, _ => exact hfl _ (by decide +kernel)
      | j + 5, hj => exact absurd (show j + 5 < 5 from hj) (by omega)
    | 1, _ =>
      match j, hj with
      | 0, _ => exact hfl _ (by decide +kernel)
      | 1, _ => exact hfl _ (by decide +kernel)
      | 2, _ => exact hfl _ (by decide +kernel)
      | 3, _ => exact hfl _ (by decide +kernel)
      | j + 4, hj => exact absurd (show j + 4 < 4 from hj) (by omega)
    | 2, _ =>
      match j, hj with
      | 0, _ => exact hfl _ (by decide +kernel)
      | 1, _ => exact hfl _ (by decide +kernel)
      | 2, _ => exact hfl _ (by decide +kernel)
      | 3, _ => exact hfl _ (by decide +kernel)
      | j + 4, hj => exact absurd (show j + 4 < 4 from hj) (by omega)
    | 3, _ =>
      match j, hj with
      | 0, _ => exact hfl _ (by decide +kernel)
      | 1, _ => exact hfl _ (by decide +kernel)
      | 2, _ => exact hfl _ (by decide +kernel)
      | j + 3, hj => exact absurd (show j + 3 < 3 from hj) (by omega)
    | i + 4, hi => exact absurd hi (by omega))
    (fun i j hi hj hij => by
    match i, hi, j, hj with
    | 0, _, 0, _ => exact absurd rfl hij
    | 0, _, 1, _ => exact Or.inl (hfl _ (by decide +kernel))
    | 0, _, 2, _ => exact Or.inl (hfl _ (by decide +kernel))
    | 0, _, 3, _ => exact Or.inl (hfl _ (by decide +kernel))
    | 1, _, 0, _ => exact Or.inr (hfl _ (by decide +kernel))
    | 1, _, 1, _ => exact absurd rfl hij
    | 1, _, 2, _ => exact Or.inl (hfl _ (by decide +kernel))
    | 1, _, 3, _ => exact Or.inl (hfl _ (by decide +kernel))
    | 2, _, 0, _ => exact Or.inr (hfl _ (by decide +kernel))
    | 2, _, 1, _ => exact Or.inr (hfl _ (by decide +kernel))
    | 2, _, 2, _ => exact absurd rfl hij
    | 2, _, 3, _ => exact Or.inl (hfl _ (by decide +kernel))
    | 3, _, 0, _ => exact Or.inr (hfl _ (by decide +kernel))
    | 3, _, 1, _ => exact Or.inr (hfl _ (by decide +kernel))
    | 3, _, 2, _ => exact Or.inr (hfl _ (by decide +kernel))
    | 3, _, 3, _ => exact absurd rfl hij
    | i + 4, hi, _, _ => exact absurd hi (by omega)
    | _, _, j + 4, hj => exact absurd hj (by omega)) hA
  obtain ⟨K, hK⟩ : ∃ K : Nat → Nat, K = fun i => if i = 9 then b else K0 i := ⟨_, rfl⟩
  have k9 : K 9 = b := by rw [hK]; rfl
  have k4 : ∀ i, i < 4 → K i = K0 i := fun i hi => by
    rw [hK]
    exact if_neg (by omega)
  refine ⟨(fun c => (dD c).1, fun c => (dD c).2), fun i => if i = 0 then c0 else c1, K, V, k9, ⟨fun k q hq => ?_, fun k q hq => ?_⟩, fun x hx hn => ?_, fun x hx hn => ?_, fun x hx => ?_, ?_, ?_, ?_, ?_, ?_, Nat.le_refl _⟩
  · match k, hq with
    | 0, hq => cases hq; exact hdD 0 (by decide)
    | 1, hq => cases hq; exact hdD 1 (by decide)
    | 2, hq => cases hq; exact hdD 2 (by decide)
    | 3, hq => cases hq; exact hdD 3 (by decide)
    | 4, hq => cases hq; exact hdD 4 (by decide)
    | 5, hq => cases hq; exact hdD 5 (by decide)
    | 6, hq => cases hq; exact hdD 6 (by decide)
    | 7, hq => cases hq; exact hdD 7 (by decide)
    | 8, hq => cases hq; exact hdD 8 (by decide)
    | k + 9, hq => simp [classes] at hq
  · match k, hq with
    | 0, hq =>
      cases hq
      exact ⟨fun n z => ⟨fun k h => (by cases h), k0, g2, p0, g3⟩, g1⟩
    | 1, hq =>
      cases hq
      exact ⟨fun n z => ⟨fun k h => (by cases h), k1, g5, p1, g6⟩, g4⟩
    | k + 2, hq => simp at hq
  · have h1 := fl_ok x hx
    obtain ⟨o, i, ci, k, n⟩ := x
    simp only at hn
    subst hn
    exact va_Nw.of rfl (htb _ h1)
  · have h1 := ml_ok x hx
    obtain ⟨o, i, M, n⟩ := x
    simp only at hn
    subst hn
    exact va_Nw.of rfl (htb _ h1)
  · have h1 := st_ok x hx
    have hx' : x = (75, 0) ∨ x = (81, 1) ∨ x = (83, 2) ∨ x = (85, 3) := by simpa [strT] using hx
    rcases hx' with rfl | rfl | rfl | rfl
    · exact vk_R.of (A := #[Value.ref b]) (htb _ h1) (by rw [k4 0 (by decide)]; exact hK0 0 (by decide))
    · exact vk_R.of (A := #[Value.ref b]) (htb _ h1) (by rw [k4 1 (by decide)]; exact hK0 1 (by decide))
    · exact vk_R.of (A := #[Value.ref b]) (htb _ h1) (by rw [k4 2 (by decide)]; exact hK0 2 (by decide))
    · exact vk_R.of (A := #[Value.ref b]) (htb _ h1) (by rw [k4 3 (by decide)]; exact hK0 3 (by decide))
  · exact ⟨fun i hi => by rw [k4 i hi]; exact hS.1 i hi, fun i j hi hj e => hS.2 i j hi hj (by rwa [k4 i hi, k4 j hj] at e)⟩
  · exact va_Zof (args := #[Value.ref b]) (htb _ (List.mem_of_getElem? (i := 413) (by decide +kernel))) (htb _ (List.mem_of_getElem? (i := 11) (by decide +kernel))) (va_eqt (hfl _ (by decide +kernel))) hA
  · exact va_Zqof (args := #[Value.ref b]) (htb _ (List.mem_of_getElem? (i := 429) (by decide +kernel))) (htb _ (List.mem_of_getElem? (i := 13) (by decide +kernel))) (hfl _ (by decide +kernel)) hA
  · rw [k9]; exact hX
  · rw [k9]; exact hbl
theorem whole_start {p : Program} {e : Env} {s : State} {m : MethodId} {below : List Frame} {meth : Method} {c : Code} (l : Launch) (hflags : l.flags = flags0) {b L : Nat} {xs : Nat → Int32} (hL : L ≤ 3072) (C0 : lw_At p s m meth c b L xs) : W p l e room_1 s m #[Value.ref b] below meth c s.heap [] 0 0 (lw_Z below #[Value.ref b] s) (entryFrame m ([Value.ref b] : List Value).toArray 4) := by
  obtain ⟨hx, hb, hr, hml, hown, hts, hX, hbl, hlocks, hgv⟩ := id C0
  have htt : ∀ w ∈ TT, w.before #[Value.ref b] s = true := fun w hw => hts w (List.mem_filter.mp hw).1
  obtain ⟨D, cA, K, V, k9, hXT⟩ := ws_XT hts hX hbl hgv
  obtain ⟨b2, u2, v2, A2, s2, hs2, hrun⟩ := ls_all (L := L) (xs := xs) (by omega)
  obtain ⟨f, hf⟩ := (ev_run XX _).mp hrun
  have hent := mLS_entry (b := s.heap.size) (K := K) (as := [.float 9]) (n := 4) (by decide)
  have hm : ([Value.float 9].map (mv s.heap.size K)) = [Value.ref b] := by
    show [Value.ref (K (9 : UInt32).toNat)] = _
    rw [show (9 : UInt32).toNat = 9 from rfl, k9]
  rw [hm] at hent
  rw [lg_entry_eq]
  have C : CX 220 p room_1 s m #[Value.ref b] meth c := ⟨hx, hb, hml, hown, htt, fun h => absurd h (by decide), by decide, by decide⟩
  have hRel : Rel s.heap.size D cA K (HX [] [] 0 (L, xs)) s.heap := ⟨rfl, fun k e hk => by
    have h : (none : Option mE) = some e := hk
    cases h⟩
  refine snd_all s.heap.size D cA K V l f 220 0 (mEnt [.float 9] (mLc 220)) [] (HX [] [] 0 (L, xs)) (some (.int 1)) (G b2 u2 v2 A2 (73, s2, L, xs)) hf C hXT hRel va_S.rf hent (by show 0 + 73 ≤ 600000 + 0; omega) (by show 0 + s2 ≤ 7302250 + 0; omega) ?_
  intro kc' ks' pc' H' locs' lsr' e1 e2 hR' hS' hret
  have e1' : kc' + 0 = 0 + 73 := e1
  have e2' : ks' + 0 = 0 + s2 := e2
  have hdg : decode code pc' = .ok (.ireturn, 1) := hret.1
  refine va_forget (fun q hq => hS'.2.2 q hq) ?_
  refine W.widen (k := 600000) (n := 7302250) (by omega) (by omega) ?_
  exact lw_ret hx hb hr hlocks hdg
