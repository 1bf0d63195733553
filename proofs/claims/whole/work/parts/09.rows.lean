/-! EACH STEP of the mini machine is one of the machine. -/
theorem okq_dec {M pc : Nat} {ins : Instr} {len a b c d : Nat} (h : okq M pc (ins, len, a, b, c, d) = true) : decode (mB M) pc = .ok (ins, len) ∧ (ilen ins = 0 ∨ ilen ins = len) ∧ oka M pc ins a b c d = true := by
  unfold okq at h
  simp only [Bool.and_eq_true, Bool.or_eq_true] at h
  obtain ⟨⟨h1, h2⟩, h3⟩ := h
  refine ⟨?_, ?_, h3⟩
  · split at h1
    · rename_i i n hd
      simp only [Bool.and_eq_true, decide_eq_true_eq, Nat.beq_eq] at h1
      obtain ⟨rfl, rfl⟩ := h1
      exact hd
    · cases h1
  · rcases h2 with h2 | h2
    · exact Or.inl (Nat.eq_of_beq_eq_true h2)
    · exact Or.inr (Nat.eq_of_beq_eq_true h2)
theorem good_lay (C : String) (T : u_T) (k : Nat) : goodWord (u_lay C T k) = true := by
  unfold u_lay
  split <;> rfl
theorem u_ws_ok {s : State} {args : Array Value} (hts : ∀ w ∈ TT, w.before args s = true) {ci : Nat} (h : ci < 9) : ∀ w ∈ u_ws (cN ci) (FT ci) (fNm ci), w.before args s = true := by
  intro w hw
  obtain ⟨k, hk, rfl⟩ := List.mem_map.mp hw
  exact hts _ (tt_of ((fld_ok ci h).1 k (List.mem_range.mp hk)) (good_lay _ _ _))
theorem flW_ok {s : State} {args : Array Value} (hts : ∀ w ∈ TT, w.before args s = true) (hN : ∀ x ∈ flT, x.2.2.2.2 = 1 → va_Nw (flW x) s) {o i ci k n : Nat} (h : (o, i, ci, k, n) ∈ flT) :
    (n = 1 → (Jvm.Cond.fieldLinkNest (cN o) i (cN ci) (FT ci k).2.1 (FT ci k).2.2.1 "ReinHall").before args s = true) ∧ (n ≠ 1 → (Jvm.Cond.fieldLink (cN o) i (cN ci) (FT ci k).2.1 (FT ci k).2.2.1).before args s = true) := by
  refine ⟨fun hn => ?_, fun hn => ?_⟩
  · subst hn
    exact (hN _ h rfl).use rfl
  · have h1 := fl_ok _ h
    unfold flP at h1
    simp only at h1
    exact hts _ (tt_of h1 rfl)
theorem mlW_ok {s : State} {args : Array Value} (hts : ∀ w ∈ TT, w.before args s = true) (hN : ∀ x ∈ mlT, x.2.2.2 = 1 → va_Nw (mlW x) s) {o i M n : Nat} (h : (o, i, M, n) ∈ mlT) :
    (n = 1 → va_Nw (Jvm.Cond.methodLinkNest (cN o) i (mY M) "ReinHall") s) ∧ (n ≠ 1 → (Jvm.Cond.methodLink (cN o) i (mY M)).before args s = true) := by
  refine ⟨fun hn => ?_, fun hn => ?_⟩
  · subst hn
    exact hN _ h rfl
  · have h1 := ml_ok _ h
    unfold mlP at h1
    simp only at h1
    exact hts _ (tt_of h1 rfl)
theorem ft_own {ci : Nat} (h : ci < 9) {k : Nat} (hk : k < fNm ci) : (FT ci k).1 = cN ci := (fld_ok ci h).2.2.2.2.2.1 k hk
theorem ft_cls {ci : Nat} (h : ci < 9) : classes[ci]? = some (cN ci, FT ci, fNm ci) := (fld_ok ci h).2.2.2.1
def tagOk (d : Nat) (ty : FieldType) : Bool := match d, ty with
  | 0, .int => true
  | 1, .boolean => true
  | 2, .long => true
  | 3, .object _ => true
  | 3, .array _ => true
  | _, _ => false
theorem tag_ok : ∀ ci, ci < 9 → ∀ k, k < fNm ci → tagOk ((ctT ci).getD k 9) (fty ci k) = true := by decide +kernel
theorem okv_fit1 {d : Nat} {ty : FieldType} {b : Nat} {K : Nat → Nat} {v : Value} (ht : tagOk d ty = true) (hv : okv d v) : narrow ty (mv b K v) = mv b K v ∧ fits ty (mv b K v) = true := by
  unfold okv at hv
  unfold tagOk at ht
  split at hv
  · split at ht
    all_goals first
      | exact ⟨rfl, rfl⟩
      | (exfalso; simp_all; done)
  · split at ht
    all_goals first
      | (rcases hv with rfl | rfl <;> exact ⟨rfl, rfl⟩)
      | (exfalso; simp_all; done)
  · split at ht
    all_goals first
      | exact ⟨rfl, rfl⟩
      | (exfalso; simp_all; done)
  · split at ht
    all_goals first
      | exact ⟨rfl, rfl⟩
      | (exfalso; simp_all; done)
  · exact hv.elim
theorem okv_fits {ci k d : Nat} {b : Nat} {K : Nat → Nat} {v : Value} (h : ci < 9) (hk : k < fNm ci) (hd : (ctT ci)[k]? = some d) (hv : okv d v) : narrow (fty ci k) (mv b K v) = mv b K v ∧ fits (fty ci k) (mv b K v) = true := by
  have h1 := tag_ok ci h k hk
  rw [List.getD_eq_getElem?_getD, hd] at h1
  exact okv_fit1 h1 hv
/-- the fixed facts of a walk of method M from the state s -/
def CX (M : Nat) (p : Program) (R : Room) (s : State) (m : MethodId) (args : Array Value) (meth : Method) (c : Code) : Prop :=
  p.tables.exec = Jvm.exec ∧ c.code = mB M ∧ c.maxLocals = mLc M ∧ s.vm.findClass (cN (mCl M)) = some m.cls ∧ (∀ w ∈ TT, w.before args s = true) ∧ (mKd M = 2 → meth.name = "<init>") ∧ mDp M ≤ R.frames ∧ 32 * mDp M ≤ R.locals
section STEP
variable {p : Program} {l : Launch} {e : Env} {R : Room} {s : State} {m : MethodId} {args : Array Value} {below : List Frame} {meth : Method} {c0 : Code} {H : Heap} {locs : List Loc} {kc ks : Nat} {Q : State → Prop}
variable {b : Nat} {D : va_G} {cA K V : Nat → Nat} {σ : mS} {M pc : Nat} {lsr : Array Slot} {rest : List Value}
theorem w_put {t ci k : Nat} {fs : List Value} {v : Value} {d i n : Nat} (C : CX M p R s m args meth c0) (X : XT b D cA K V σ.2.2.2 s) (hR : Rel b D cA K σ H) (hS : va_S (mA0 b) s.heap H locs) (ht : σ.1 t = some (.inr (ci, fs))) (hk : k < fs.length) (hci : ci < 9) (hkN : k < fNm ci) (hd : (ctT ci)[k]? = some d) (hv : okv d v) (hfl : (mCl M, i, ci, k, if n = 1 then 1 else 0) ∈ flT)
    (hfin : (n ≠ 2 ∧ (FT ci k).2.2.2 = false) ∨ (n = 2 ∧ (FT ci k).2.2.2 = true ∧ mKd M = 2 ∧ mCl M = ci)) (hdg : decode (mB M) pc = .ok (.putfield i, 3))
    (kk : ∀ H1 locs1, Rel b D cA K (mset σ t (.inr (ci, fs.set k v))) H1 → va_S (mA0 b) s.heap H1 locs1 → W p l e R s m args below meth c0 H1 locs1 kc ks Q (F0 m (pc + 3) lsr rest)) : W p l e R s m args below meth c0 H locs kc ks Q (F0 m pc lsr (mv b K v :: .ref (b + t) :: rest)) := by
  obtain ⟨hx, hb, hml, hown, hts, hin2, -, -⟩ := C
  have hK := X.1
  have hu := u_ws_ok hts hci
  have hown' := ft_own hci hkN
  have hcl := ft_cls hci
  obtain ⟨hfl1, hfl2⟩ := flW_ok hts X.2.1 hfl
  obtain ⟨hn, hft⟩ := okv_fits (b := b) (K := K) hci hkN hd hv
  have hty := (fld_ok ci hci).2.2.1
  have hnm := (fld_ok ci hci).2.1
  have hap := va_apart (own := "") hu (fun w h => h) (fty ci) hty hnm hK hcl
  have hat : va_at D classes (b + t, .inr (ci, fs.map (mv b K))) H := (hR.2 t _ ht).2
  obtain ⟨r, h1, cell, q1, q2, q3, q4⟩ := hat
  have hr : r = (cN ci, FT ci, fNm ci) := Option.some.inj (h1.symm.trans hcl)
  subst hr
  obtain ⟨hSl, hfc, kC, hkC, hkind⟩ := hK.1 ci _ hcl
  obtain ⟨cf, kf, fi, f, hi, hsl⟩ := hSl k hkN
  have hlay := hu _ (u_in_lay hkN)
  unfold u_lay at hlay
  have hst := (u_facts hfc hkC (u_lays hu (fun w h => h) hkN) hi).1
  have hA : mA0 b (b + t) := Nat.le_add_right b t
  have hl : k < (fs.map (mv b K)).length := by rw [List.length_map]; exact hk
  have go : ∀ H' : Heap, H'[b + t]? = some (cell.setSlot f.slot (mv b K v)) → H'.size = H.size → (∀ q, q ≠ b + t → H'[q]? = H[q]?) → W p l e R s m args below meth c0 H' (locs ++ [⟨b + t, f.slot⟩]) kc ks Q (F0 m (pc + 3) lsr rest) := by
    intro H' e1 e2 e3
    refine kk H' _ (Rel_set hR ht ?_ e2 e3) (hS.put e2 e3 hA)
    refine ⟨_, hcl, ?_⟩
    rw [hsl] at e1
    have hmap : (fs.set k v).map (mv b K) = (fs.map (mv b K)).set k (mv b K v) := List.map_set
    show t_OB (b + t) (D.1 ci) (fNm ci) (D.2 ci) H' (vp_V ((fs.set k v).map (mv b K)))
    rw [hmap]
    exact t_OB.to (V := updV (vp_V (fs.map (mv b K))) k (mv b K v)) ⟨_, e1, q2, q3, t_set q4 hap hkN (mv b K v)⟩ (fun j _ => vp_updV_set hl (mv b K v) j)
  rcases hfin with ⟨hn2, hfin⟩ | ⟨hn2, hfin, hkd, hcls⟩
  · rw [if_neg (by rw [hfin]; decide)] at hlay
    have h6 := u_store hfc hkC hkind hlay hi (hty k hkN) hn hft
    by_cases hn1 : n = 1
    · rw [hown'] at hi
      exact va_WputK hx hb (f := f) hown (hfl1 (if_pos hn1)) hi hst (by rw [q2]; exact h6) q1 q3 (by rw [hsl]; exact k2_hasslot (q4 k hkN)) rfl rfl hdg go
    · rw [hown'] at hi
      exact W.putK hx hb (f := f) ⟨hown, hfl2 (by rw [if_neg hn1]; decide), ⟨_, _, _, hi⟩, hst⟩ (by rw [q2]; exact h6) q1 q3 (by rw [hsl]; exact k2_hasslot (q4 k hkN)) rfl rfl hdg go
  · rw [if_pos hfin] at hlay
    have hcf : m.cls = cf := by
      obtain ⟨_, _, c', _, _, _, -, -, hf', -, -, -, hown2, -⟩ := Cond.laysFinal_spec hlay
      have e1 : c' = cf := by have := hi.symm.trans hf'; simp at this; exact this.1.symm
      rw [hown', ← hcls] at hown2
      rw [← e1]; exact Option.some.inj (hown.symm.trans hown2)
    have h6 := u_fits hfc hkC hkind (Or.inr hlay) hi (hty k hkN) hn hft
    have hn1 : n ≠ 1 := by omega
    rw [hown'] at hi
    exact W.putFinK hx hb hown (hfl2 (by rw [if_neg hn1]; decide)) hi hst hcf (hin2 hkd) (by rw [q2]; exact h6) q1 q3 (by rw [hsl]; exact k2_hasslot (q4 k hkN)) rfl rfl hdg go
theorem w_get {t ci k : Nat} {fs : List Value} {v : Value} {i n : Nat} (C : CX M p R s m args meth c0) (X : XT b D cA K V σ.2.2.2 s) (hR : Rel b D cA K σ H) (ht : σ.1 t = some (.inr (ci, fs))) (hk : fs[k]? = some v) (hci : ci < 9) (hkN : k < fNm ci) (hfl : (mCl M, i, ci, k, n) ∈ flT) (hdg : decode (mB M) pc = .ok (.getfield i, 3))
    (kk : W p l e R s m args below meth c0 H locs kc ks Q (F0 m (pc + 3) lsr (mv b K v :: rest))) : W p l e R s m args below meth c0 H locs kc ks Q (F0 m pc lsr (.ref (b + t) :: rest)) := by
  obtain ⟨hx, hb, hml, hown, hts, hin2, -, -⟩ := C
  have hK := X.1
  have hu := u_ws_ok hts hci
  have hown' := ft_own hci hkN
  have hcl := ft_cls hci
  obtain ⟨hfl1, hfl2⟩ := flW_ok hts X.2.1 hfl
  have hat : va_at D classes (b + t, .inr (ci, fs.map (mv b K))) H := (hR.2 t _ ht).2
  have hv : (fs.map (mv b K))[k]? = some (mv b K v) := by rw [List.getElem?_map, hk]; rfl
  by_cases hn : n = 1
  · exact va_getN (ref := cN ci) hx hb hu (fun w h => h) hown hK (va_P_one hat) 0 rfl hcl k hkN (hfl1 hn) (by rw [hown']; exact fun _ h => h) hv hdg kk
  · exact va_get (ref := cN ci) hx hb hu (fun w h => h) hown hK (va_P_one hat) 0 rfl hcl k hkN (hfl2 hn) (by rw [hown']; exact fun _ h => h) hv hdg kk
theorem w_iast {t n : Nat} {f : Nat → Int32} {i v : Int32} (C : CX M p R s m args meth c0) (X : XT b D cA K V σ.2.2.2 s) (hR : Rel b D cA K σ H) (hS : va_S (mA0 b) s.heap H locs) (ht : σ.1 t = some (.inl (0, n, f))) (hin : vp_in i n) (hdg : decode (mB M) pc = .ok (.iastore, 1))
    (kk : ∀ H1 locs1, Rel b D cA K (mset σ t (.inl (0, n, upd f i.toNatClampNeg v))) H1 → va_S (mA0 b) s.heap H1 locs1 → W p l e R s m args below meth c0 H1 locs1 kc ks Q (F0 m (pc + 1) lsr rest)) : W p l e R s m args below meth c0 H locs kc ks Q (F0 m pc lsr (.int v :: .int i :: .ref (b + t) :: rest)) := by
  obtain ⟨hx, hb, -⟩ := C
  have hK := X.1
  have hat : H[b + t]? = some (vp_cell (cA 0) (n, .inl f)) := (hR.2 t _ ht).2
  refine W.iast hx hb hat ((hK.2 0 _ rfl).1 n (fun j => .int (f j))) (fun q => by cases q) (by show ¬ (i < 0 ∨ (arrV _ _ _).slots.size ≤ _); rw [arrV_size]; exact hin) rfl rfl hdg fun H1 e z oq => ?_
  refine kk H1 _ (Rel_set hR ht ?_ z oq) (hS.put z oq (Nat.le_add_right b t))
  show H1[b + t]? = some (vp_cell _ _)
  rw [e, vp_cell_i, vp_cell_i, arrV_store]
  congr 2
  funext q
  by_cases hq : q = i.toNatClampNeg
  · subst hq
    simp [updV, upd]
  · simp [updV, upd, hq]
theorem w_zast {t n : Nat} {f : Nat → Int32} {i v : Int32} (hv : v = 0 ∨ v = 1) (C : CX M p R s m args meth c0) (X : XT b D cA K V σ.2.2.2 s) (hR : Rel b D cA K σ H) (hS : va_S (mA0 b) s.heap H locs) (ht : σ.1 t = some (.inl (1, n, f))) (hin : vp_in i n) (hdg : decode (mB M) pc = .ok (.bastore, 1))
    (kk : ∀ H1 locs1, Rel b D cA K (mset σ t (.inl (1, n, upd f i.toNatClampNeg v))) H1 → va_S (mA0 b) s.heap H1 locs1 → W p l e R s m args below meth c0 H1 locs1 kc ks Q (F0 m (pc + 1) lsr rest)) : W p l e R s m args below meth c0 H locs kc ks Q (F0 m pc lsr (.int v :: .int i :: .ref (b + t) :: rest)) := by
  obtain ⟨hx, hb, -⟩ := C
  have hK := X.1
  have hat : H[b + t]? = some (vp_cell (cA 1) (n, .inl f)) := (hR.2 t _ ht).2
  have hnz : narrow .boolean (.int v) = .int v := by rcases hv with rfl | rfl <;> rfl
  refine W.zast hx hb hat ((hK.2 1 _ rfl).1 n (fun j => .int (f j))) (fun q => by cases q) (by show ¬ (i < 0 ∨ (arrV _ _ _).slots.size ≤ _); rw [arrV_size]; exact hin) rfl rfl hdg fun H1 e z oq => ?_
  rw [hnz] at e
  refine kk H1 _ (Rel_set hR ht ?_ z oq) (hS.put z oq (Nat.le_add_right b t))
  show H1[b + t]? = some (vp_cell _ _)
  rw [e, vp_cell_i, vp_cell_i, arrV_store]
  congr 2
  funext q
  by_cases hq : q = i.toNatClampNeg
  · subst hq
    simp [updV, upd]
  · simp [updV, upd, hq]
theorem w_new {ci i : Nat} (C : CX M p R s m args meth c0) (X : XT b D cA K V σ.2.2.2 s) (hR : Rel b D cA K σ H) (hS : va_S (mA0 b) s.heap H locs) (hci : ci < 9) (hn : (mCl M, i, ci) ∈ newT) (hdg : decode (mB M) pc = .ok (.new i, 3)) (hkc : kc + 1 ≤ R.cells) (hks : ks + (ctT ci).length ≤ R.slots)
    (kk : ∀ H1 locs1, Rel b D cA K (mnew σ (.inr (ci, (ctT ci).map dfv)) (ctT ci).length) H1 → va_S (mA0 b) s.heap H1 locs1 → W p l e R s m args below meth c0 H1 locs1 (kc + 1) (ks + (ctT ci).length) Q (F0 m (pc + 3) lsr (.ref (b + σ.2.1) :: rest))) : W p l e R s m args below meth c0 H locs kc ks Q (F0 m pc lsr rest) := by
  obtain ⟨hx, hb, hml, hown, hts, -⟩ := C
  have hK := X.1
  have hu := u_ws_ok hts hci
  have hcl := ft_cls hci
  have hKn := hK.1 ci _ hcl
  obtain ⟨hw1, hw2, hw3⟩ := nw_ok _ hn
  have hlen : (ctT ci).length = fNm ci := (fld_ok ci hci).2.2.2.2.1
  rw [hlen] at hks kk
  refine W.newcK hx hb hown (hts _ (tt_of hw1 rfl)) (hts _ (tt_of hw2 rfl)) (hts _ (tt_of hw3 rfl)) rfl hdg hkc hks hKn.2.1 hR.1 fun H1 kC hkC e1 z1 o1 => ?_
  have hsz := hR.1
  refine kk H1 _ (Rel_new hR ⟨_, hcl, ?_⟩ (by rw [z1, hsz]) (by rw [hsz]; exact o1)) ⟨Nat.le_trans hS.1 (by omega), fun q h1 h2 => (o1 q (by rw [← hsz]; exact Nat.lt_of_lt_of_le h1 hS.1)).trans (hS.2.1 q h1 h2), hS.2.2⟩
  refine (u_born (fty ci) hu (fun w h => h) hKn hkC e1 (fld_ok ci hci).2.2.1).to fun k hk => ?_
  rw [(fld_ok ci hci).2.2.2.2.2.2 k hk]
  have hk' : k < (ctT ci).length := by rw [hlen]; exact hk
  have e2 : ((ctT ci).map dfv).map (mv b K) = (ctT ci).map dfv := by
    rw [List.map_map]
    refine List.map_congr_left fun z _ => ?_
    show mv b K (dfv z) = dfv z
    unfold dfv
    split <;> rfl
  show dfv _ = vp_V (((ctT ci).map dfv).map (mv b K)) k
  rw [e2, vp_V, List.getD_eq_getElem?_getD, List.getD_eq_getElem?_getD, List.getElem?_map, List.getElem?_eq_getElem hk']
  rfl
theorem w_newa {t : Nat} {k : ArrayType} {x : Int32} (C : CX M p R s m args meth c0) (X : XT b D cA K V σ.2.2.2 s) (hR : Rel b D cA K σ H) (hS : va_S (mA0 b) s.heap H locs) (hk : (t = 0 ∧ k = .int) ∨ (t = 1 ∧ k = .boolean)) (h0 : ¬ (x < 0 ∨ 100000 < x.toNatClampNeg)) (hdg : decode (mB M) pc = .ok (.newarray k, 2)) (hkc : kc + 1 ≤ R.cells) (hks : ks + x.toNatClampNeg ≤ R.slots)
    (kk : ∀ H1 locs1, Rel b D cA K (mnew σ (.inl (t, x.toNatClampNeg, fun _ => 0)) x.toNatClampNeg) H1 → va_S (mA0 b) s.heap H1 locs1 → W p l e R s m args below meth c0 H1 locs1 (kc + 1) (ks + x.toNatClampNeg) Q (F0 m (pc + 2) lsr (.ref (b + σ.2.1) :: rest))) : W p l e R s m args below meth c0 H locs kc ks Q (F0 m pc lsr (.int x :: rest)) := by
  obtain ⟨hx, hb, hml, hown, hts, -⟩ := C
  have hK := X.1
  have hsz := hR.1
  have hx0 : ¬ x < 0 := fun z => h0 (Or.inl z)
  have hx1 : x.toNatClampNeg ≤ 100000 := Nat.not_lt.mp fun z => h0 (Or.inr z)
  rcases hk with ⟨rfl, rfl⟩ | ⟨rfl, rfl⟩
  · refine va_newaK hx hb (atype := .int) (hts _ (tt_of aw_int rfl)) rfl hdg rfl hx0 rfl (by show x.toNatClampNeg * 4 ≤ _; omega) hkc hks hsz fun H1 c e1 z1 o1 hAr hNm => ?_
    have hc : c = cA 0 := Option.some.inj (hNm.symm.trans (hK.2 0 _ rfl).2)
    subst hc
    exact kk H1 _ (Rel_new hR (show H1[b + σ.2.1]? = some (vp_cell _ _) from e1) (by rw [z1, hsz]) (by rw [hsz]; exact o1)) ⟨Nat.le_trans hS.1 (by omega), fun q h1 h2 => (o1 q (by rw [← hsz]; exact Nat.lt_of_lt_of_le h1 hS.1)).trans (hS.2.1 q h1 h2), hS.2.2⟩
  · refine va_newaK hx hb (atype := .boolean) (hts _ (tt_of aw_bool rfl)) rfl hdg rfl hx0 rfl (by show x.toNatClampNeg * 1 ≤ _; omega) hkc hks hsz fun H1 c e1 z1 o1 hAr hNm => ?_
    have hc : c = cA 1 := Option.some.inj (hNm.symm.trans (hK.2 1 _ rfl).2)
    subst hc
    exact kk H1 _ (Rel_new hR (show H1[b + σ.2.1]? = some (vp_cell _ _) from e1) (by rw [z1, hsz]) (by rw [hsz]; exact o1)) ⟨Nat.le_trans hS.1 (by omega), fun q h1 h2 => (o1 q (by rw [← hsz]; exact Nat.lt_of_lt_of_le h1 hS.1)).trans (hS.2.1 q h1 h2), hS.2.2⟩
end STEP
