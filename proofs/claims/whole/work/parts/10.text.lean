/-! THE TEXTS: length() and charAt(k) of the four constants. -/
theorem nbeq_f {a b : Nat} (h : a ≠ b) : Nat.beq a b = false := by
  cases hz : Nat.beq a b with
  | true => exact absurd (Nat.eq_of_beq_eq_true hz) h
  | false => rfl
theorem tt_good {w : Jvm.Cond} (h : w ∈ TT) : goodWord w = true := (List.mem_filter.mp h).2
theorem tt_warm {args : Array Value} {s : State} (hts : ∀ w ∈ TT, w.before args s = true) {y : MethodName} {bytes : ByteArray} {n : Nat} {ret : Option FieldType} (hc : Jvm.Cond.code y bytes n ret ∈ tables_1) : ∀ w ∈ Jvm.Cond.code y bytes n ret :: TT, ∀ (a' : Array Value) (U : State), s.WarmedH U.vm → w.before a' U = true := by
  intro w hw a' U hW
  have hm : w ∈ TT := by
    rcases List.mem_cons.mp hw with rfl | h
    · exact tt_of hc rfl
    · exact h
  exact word_at hW (good_of_word (tt_good hm)) (hts w hm)
theorem callB_tt {args : Array Value} {s : State} {R : Room} {own : String} {index n maxL : Nat} {y : MethodName} {bytes : ByteArray} {ret : Option FieldType} {rm : Room} (hts : ∀ w ∈ TT, w.before args s = true) (hc : Jvm.Cond.code y bytes maxL ret ∈ tables_1) (hi : Jvm.Cond.initialized y.cls ∈ tables_1) (hl : (Jvm.Cond.methodLink own index y).before args s = true)
    (hy : y.cls ≠ "java/lang/invoke/MethodHandle" ∧ y.cls ≠ "java/lang/invoke/VarHandle") (hn : (parseMethodDescriptor y.desc).map (fun d => d.parameters.length) = some n) (hR : rm.frames + 1 ≤ R.frames ∧ 8 + (maxL + 11) + rm.locals ≤ R.locals) : CallB R s args own index y bytes maxL ret (Jvm.Cond.code y bytes maxL ret :: TT) rm rm.cells rm.slots n := by
  refine ⟨rfl, rfl, hR.1, hR.2, tt_warm hts hc, List.mem_cons_self, hts _ (tt_of hc rfl), hts _ (tt_of hi rfl), hy, fun sig h => ?_, hl⟩
  rw [h] at hn
  exact (Option.some.inj hn).symm
/-- an answer, the heap as it was -/
def jQ (r : Option Value) : Array Value → State → Outcome → State → Prop := fun _ st o t => o = .returned r ∧ t.heap = st.heap
section JCALL
variable {p : Program} {l : Launch} {e : Env} {R : Room} {s : State} {m : MethodId} {args : Array Value} {below : List Frame} {meth : Method} {c : Code} {H : Heap} {locs : List Loc} {kc ks : Nat} {Q : State → Prop} {A : Nat → Prop} {pc : Nat} {ls : Array Slot} {rest st0 : List Value} {a : Array Value}
theorem w_callJ {r : Option Value} (hr : va_Run p l e R s m args below meth c H locs kc ks 0 0 (F0 m pc ls st0) rest (jQ r a) A) (hS : va_S A s.heap H locs) (kk : ∀ locs1, va_S A s.heap H locs1 → W p l e R s m args below meth c H locs1 kc ks Q (F0 m (pc + 3) ls (r.toList ++ rest))) : W p l e R s m args below meth c H locs kc ks Q (F0 m pc ls st0) := by
  intro T hT X
  obtain ⟨v, st₀, t, T', L, h0, X', hL, e1, e2, ⟨hv, hh⟩, st⟩ := hr T hT X
  cases hv
  have hT' : T'.heap = H := by rw [e1, hh, h0]
  obtain ⟨t2, a1, b1⟩ := kk (locs ++ L) ⟨hS.1, hS.2.1, fun q hq => by
    rcases List.mem_append.mp hq with h | h
    · exact hS.2.2 q h
    · exact hL q h⟩ T' hT' X'
  exact ⟨t2, st t2 a1, b1⟩
end JCALL
theorem XT.blind {b : Nat} {D : va_G} {cA K V : Nat → Nat} {sc : Nat × (Nat → Int32)} {av : List Value} : FrameBlind (va_Pc av (fun U => XT b D cA K V sc U)) := fun a U g mk h => ⟨h.1, h.2.same rfl rfl⟩
theorem XT.str {b : Nat} {D : va_G} {cA K V : Nat → Nat} {sc : Nat × (Nat → Int32)} {s : State} (h : XT b D cA K V sc s) : vk_S 4 [5, 4, 4, 3] [sBy 0, sBy 1, sBy 2, sBy 3] K V (mA0 b) s s.heap := h.2.2.2.2.1
theorem sBy_at {z : Nat} (h : z < 4) : [sBy 0, sBy 1, sBy 2, sBy 3].getD z [] = sBy z ∧ [5, 4, 4, 3].getD z 0 = (sBy z).length := by
  rcases (show z = 0 ∨ z = 1 ∨ z = 2 ∨ z = 3 by omega) with rfl | rfl | rfl | rfl <;> exact ⟨rfl, rfl⟩

set_option maxHeartbeats 4000000 in
theorem jm_pre {b : Nat} {D : va_G} {cA K V : Nat → Nat} {sc : Nat × (Nat → Int32)} (l : Launch) {i n : Int32} {f : Value} (h0 : ¬ i < 0) (h1 : i < n) (hf : f = .null ∨ ∃ t, f = .ref t) : Met l jy_pre (Jvm.Cond.code jy_pre jc_pre 3 (some .int) :: TT) ({ frames := 0, cells := 0, slots := 0, locals := 0 }) (va_Pc [.int i, .int n, f] (fun U => XT b D cA K V sc U)) (jQ (some (.int i))) 0 0 (mA0 b) := by
  refine Met.ofW (cc := jc_pre) (maxL := 3) (ret := (some .int)) (by decide) rfl ?_
  intro p e s m args below meth c s₁ B hml hv
  obtain ⟨rfl, X⟩ := hv
  have hx := B.exec
  have hb := B.bytes
  have hr := B.returns
  have hts0 := atoms_spec (ws := Jvm.Cond.code jy_pre jc_pre 3 (some .int) :: TT) B.pre
  have hts : ∀ w ∈ TT, w.before (([.int i, .int n, f] : List Value).toArray) s = true := fun w hw => hts0 w (List.mem_cons_of_mem _ hw)
  have hown : s.vm.findClass "jdk/internal/util/Preconditions" = some m.cls := findClass_of_methodNamed B.named
  have hlocks := B.notSynchronized
  have hS : va_S (mA0 b) s.heap s.heap [] := va_S.rf
  have hmt : ∀ {w : Jvm.Cond}, w ∈ tables_1 → goodWord w = true → w.before (([.int i, .int n, f] : List Value).toArray) s = true := fun h g => hts _ (tt_of h g)
  have hl := lv_entry ([.int i, .int n, f]) (n := 3) (by rcases hf with rfl | ⟨t, rfl⟩ <;> exact Nat.le_of_ble_eq_true rfl)
  rw [lg_entry_eq]
  generalize (lg_sl ([.int i, .int n, f]) ++ List.replicate (3 - (lg_sl ([.int i, .int n, f])).length) Slot.unset).toArray = ls at hl ⊢
  have hl : lv_has ls 3 [(0, .int i), (1, .int n), (2, f)] := by rcases hf with rfl | ⟨t, rfl⟩ <;> exact hl
  refine lv_iload_n hx hb jd_pre_0 rfl (lv_at hl 0 rfl) ?_
  refine lv_if_lt (tgt := 9) hx hb jd_pre_1 (by decide) (fun z => absurd z h0) (fun _ => ?_)
  refine lv_iload_n hx hb jd_pre_4 rfl (lv_at hl 0 rfl) ?_
  refine lv_iload_n hx hb jd_pre_5 rfl (lv_at hl 1 rfl) ?_
  refine lv_icmp_lt (tgt := 16) hx hb jd_pre_6 (by decide) (fun _ => ?_) (fun z => absurd h1 z)
  refine lv_iload_n hx hb jd_pre_16 rfl (lv_at hl 0 rfl) ?_
  exact W.iret (v := i) hx hb hr (fun t ht hW => ⟨rfl, ht⟩) hS.2.2 jd_pre_17
set_option maxHeartbeats 4000000 in
theorem jm_cki {b : Nat} {D : va_G} {cA K V : Nat → Nat} {sc : Nat × (Nat → Int32)} (l : Launch) {i n : Int32} (h0 : ¬ i < 0) (h1 : i < n) : Met l jy_cki (Jvm.Cond.code jy_cki jc_cki 2 none :: TT) ({ frames := 1, cells := 0, slots := 0, locals := 22 }) (va_Pc [.int i, .int n] (fun U => XT b D cA K V sc U)) (jQ none) 0 0 (mA0 b) := by
  refine Met.ofW (cc := jc_cki) (maxL := 2) (ret := none) (by decide) rfl ?_
  intro p e s m args below meth c s₁ B hml hv
  obtain ⟨rfl, X⟩ := hv
  have hx := B.exec
  have hb := B.bytes
  have hr := B.returns
  have hts0 := atoms_spec (ws := Jvm.Cond.code jy_cki jc_cki 2 none :: TT) B.pre
  have hts : ∀ w ∈ TT, w.before (([.int i, .int n] : List Value).toArray) s = true := fun w hw => hts0 w (List.mem_cons_of_mem _ hw)
  have hown : s.vm.findClass "java/lang/String" = some m.cls := findClass_of_methodNamed B.named
  have hlocks := B.notSynchronized
  have hS : va_S (mA0 b) s.heap s.heap [] := va_S.rf
  have hmt : ∀ {w : Jvm.Cond}, w ∈ tables_1 → goodWord w = true → w.before (([.int i, .int n] : List Value).toArray) s = true := fun h g => hts _ (tt_of h g)
  have hl := lv_entry ([.int i, .int n]) (n := 2) (Nat.le_of_ble_eq_true rfl)
  rw [lg_entry_eq]
  generalize (lg_sl ([.int i, .int n]) ++ List.replicate (2 - (lg_sl ([.int i, .int n])).length) Slot.unset).toArray = ls at hl ⊢
  have hl : lv_has ls 2 [(0, .int i), (1, .int n)] := hl
  refine lv_iload_n hx hb jd_cki_0 rfl (lv_at hl 0 rfl) ?_
  refine lv_iload_n hx hb jd_cki_1 rfl (lv_at hl 1 rfl) ?_
  rcases X.2.2.2.2.2.2.1 with hZ | ⟨t, hZ⟩
  · refine va_gets hx hb hZ hS hown (hmt jf_String_1053 rfl) (fun _ h => h) jd_cki_2 ?_
    refine w_callJ (va_runS (As := [.int i, .int n, .null]) (rest := []) ⟨hx, hb, hml, hown, hts⟩ (jm_pre (b := b) (D := D) (cA := cA) (K := K) (V := V) (sc := sc) l h0 h1 (Or.inl rfl)) ⟨callB_tt (n := 3) hts jw_pre ji_pre (hmt jl_pre_1059 rfl) (by decide) (by decide +kernel) ⟨Nat.le_of_ble_eq_true rfl, Nat.le_of_ble_eq_true rfl⟩, hmt js_pre rfl⟩ ⟨XT.blind, fun U hU hW => ⟨rfl, X.step hW (by rw [hU]; exact hS)⟩⟩ rfl rfl hl.1 rfl (lv_room (Nat.le_of_ble_eq_true rfl)) jd_cki_5 ⟨Nat.zero_le _, Nat.zero_le _⟩) hS (fun locs1 hS => ?_)
    refine lv_pop hx hb jd_cki_8 rfl ?_
    exact W.vret hx hb hr (fun t ht hW => ⟨rfl, ht⟩) hS.2.2 jd_cki_9
  · refine va_gets hx hb hZ hS hown (hmt jf_String_1053 rfl) (fun _ h => h) jd_cki_2 ?_
    refine w_callJ (va_runS (As := [.int i, .int n, .ref t]) (rest := []) ⟨hx, hb, hml, hown, hts⟩ (jm_pre (b := b) (D := D) (cA := cA) (K := K) (V := V) (sc := sc) l h0 h1 (Or.inr ⟨t, rfl⟩)) ⟨callB_tt (n := 3) hts jw_pre ji_pre (hmt jl_pre_1059 rfl) (by decide) (by decide +kernel) ⟨Nat.le_of_ble_eq_true rfl, Nat.le_of_ble_eq_true rfl⟩, hmt js_pre rfl⟩ ⟨XT.blind, fun U hU hW => ⟨rfl, X.step hW (by rw [hU]; exact hS)⟩⟩ rfl rfl hl.1 rfl (lv_room (Nat.le_of_ble_eq_true rfl)) jd_cki_5 ⟨Nat.zero_le _, Nat.zero_le _⟩) hS (fun locs1 hS => ?_)
    refine lv_pop hx hb jd_cki_8 rfl ?_
    exact W.vret hx hb hr (fun t ht hW => ⟨rfl, ht⟩) hS.2.2 jd_cki_9
set_option maxHeartbeats 4000000 in
theorem jm_chL {b : Nat} {D : va_G} {cA K V : Nat → Nat} {sc : Nat × (Nat → Int32)} (l : Launch) {z : Nat} {i : Int32} (hz : z < 4) (hi : ¬ (i < 0 ∨ (sBy z).length ≤ i.toNatClampNeg)) : Met l jy_chL (Jvm.Cond.code jy_chL jc_chL 2 (some .char) :: TT) ({ frames := 2, cells := 0, slots := 0, locals := 43 }) (va_Pc [.ref (V z), .int i] (fun U => XT b D cA K V sc U)) (jQ (some (.int ((sBy z).getD i.toNatClampNeg 0)))) 0 0 (mA0 b) := by
  refine Met.ofW (cc := jc_chL) (maxL := 2) (ret := (some .char)) (by decide) rfl ?_
  intro p e s m args below meth c s₁ B hml hv
  obtain ⟨rfl, X⟩ := hv
  have hx := B.exec
  have hb := B.bytes
  have hr := B.returns
  have hts0 := atoms_spec (ws := Jvm.Cond.code jy_chL jc_chL 2 (some .char) :: TT) B.pre
  have hts : ∀ w ∈ TT, w.before (([.ref (V z), .int i] : List Value).toArray) s = true := fun w hw => hts0 w (List.mem_cons_of_mem _ hw)
  have hown : s.vm.findClass "java/lang/StringLatin1" = some m.cls := findClass_of_methodNamed B.named
  have hlocks := B.notSynchronized
  have hS : va_S (mA0 b) s.heap s.heap [] := va_S.rf
  have hmt : ∀ {w : Jvm.Cond}, w ∈ tables_1 → goodWord w = true → w.before (([.ref (V z), .int i] : List Value).toArray) s = true := fun h g => hts _ (tt_of h g)
  have hl := lv_entry ([.ref (V z), .int i]) (n := 2) (Nat.le_of_ble_eq_true rfl)
  rw [lg_entry_eq]
  generalize (lg_sl ([.ref (V z), .int i]) ++ List.replicate (2 - (lg_sl ([.ref (V z), .int i])).length) Slot.unset).toArray = ls at hl ⊢
  have hl : lv_has ls 2 [(0, .ref (V z)), (1, .int i)] := hl
  have hT : va_T .byte (V z) (sBy z).length (fun j => .int ((sBy z).getD j 0)) (mA0 b) s s.heap := by
    have h := (X.str.1 z hz).2.2.2
    rw [(sBy_at hz).1, (sBy_at hz).2] at h
    exact h
  have hlen : (sBy z).length < 6 := by rcases (show z = 0 ∨ z = 1 ∨ z = 2 ∨ z = 3 by omega) with rfl | rfl | rfl | rfl <;> decide
  have hi0 : ¬ i < 0 := fun q => hi (Or.inl q)
  have hi1 : i.toNatClampNeg < (sBy z).length := Nat.not_le.mp fun q => hi (Or.inr q)
  obtain ⟨j, hj, rfl⟩ := vp_in_of (n := (sBy z).length) hi (by omega)
  have hcl : (nI j).toNatClampNeg = j := nI_clamp (by omega)
  have hby : (((sBy z).getD j 0 &&& 255).toUInt32 % 65536).toInt32 = (sBy z).getD j 0 ∧ narrow .char (.int ((sBy z).getD j 0)) = .int ((sBy z).getD j 0) := by
    have hall : ∀ z, z < 4 → ∀ j, j < (sBy z).length → (((sBy z).getD j 0 &&& 255).toUInt32 % 65536).toInt32 = (sBy z).getD j 0 ∧ narrow .char (.int ((sBy z).getD j 0)) = .int ((sBy z).getD j 0) := by decide +kernel
    exact hall z hz j hj
  refine lv_iload_n hx hb jd_chL_0 rfl (lv_at hl 1 rfl) ?_
  refine lv_aload_n hx hb jd_chL_1 rfl (lv_at hl 0 rfl) ?_
  refine va_tlen hx hb hT hS (v := nI (sBy z).length) rfl jd_chL_2 ?_
  refine w_callJ (va_runS (As := [.int (nI j), .int (nI (sBy z).length)]) (rest := []) ⟨hx, hb, hml, hown, hts⟩ (jm_cki (b := b) (D := D) (cA := cA) (K := K) (V := V) (sc := sc) l hi0 (nI_lt hj (by omega))) ⟨callB_tt (n := 2) hts jw_cki ji_cki (hmt jl_cki_9 rfl) (by decide) (by decide +kernel) ⟨Nat.le_of_ble_eq_true rfl, Nat.le_of_ble_eq_true rfl⟩, hmt js_cki rfl⟩ ⟨XT.blind, fun U hU hW => ⟨rfl, X.step hW (by rw [hU]; exact hS)⟩⟩ rfl rfl hl.1 rfl (lv_room (Nat.le_of_ble_eq_true rfl)) jd_chL_3 ⟨Nat.zero_le _, Nat.zero_le _⟩) hS (fun locs1 hS => ?_)
  refine lv_aload_n hx hb jd_chL_6 rfl (lv_at hl 0 rfl) ?_
  refine lv_iload_n hx hb jd_chL_7 rfl (lv_at hl 1 rfl) ?_
  refine va_tb hx hb hT hS (vp_in_nI hj (by omega)) rfl jd_chL_8 ?_
  refine lv_sipush hx hb jd_chL_9 rfl ?_
  refine lv_iand hx hb jd_chL_12 ?_
  refine lv_i2c hx hb jd_chL_13 (v := (sBy z).getD j 0) (by rw [hcl]; exact hby.1) ?_
  refine W.zret (v := (sBy z).getD j 0) (ty := .char) hx hb hr hby.2 (fun t ht hW => ⟨?_, ht⟩) hS.2.2 jd_chL_14
  rw [hcl]
set_option maxHeartbeats 4000000 in
theorem jm_isL {b : Nat} {D : va_G} {cA K V : Nat → Nat} {sc : Nat × (Nat → Int32)} (l : Launch) {z : Nat} (hz : z < 4) : Met l jy_isL (Jvm.Cond.code jy_isL jc_isL 1 (some .boolean) :: TT) ({ frames := 0, cells := 0, slots := 0, locals := 0 }) (va_Pc [.ref (K z)] (fun U => XT b D cA K V sc U)) (jQ (some (.int 1))) 0 0 (mA0 b) := by
  refine Met.ofW (cc := jc_isL) (maxL := 1) (ret := (some .boolean)) (by decide) rfl ?_
  intro p e s m args below meth c s₁ B hml hv
  obtain ⟨rfl, X⟩ := hv
  have hx := B.exec
  have hb := B.bytes
  have hr := B.returns
  have hts0 := atoms_spec (ws := Jvm.Cond.code jy_isL jc_isL 1 (some .boolean) :: TT) B.pre
  have hts : ∀ w ∈ TT, w.before (([.ref (K z)] : List Value).toArray) s = true := fun w hw => hts0 w (List.mem_cons_of_mem _ hw)
  have hown : s.vm.findClass "java/lang/String" = some m.cls := findClass_of_methodNamed B.named
  have hlocks := B.notSynchronized
  have hS : va_S (mA0 b) s.heap s.heap [] := va_S.rf
  have hmt : ∀ {w : Jvm.Cond}, w ∈ tables_1 → goodWord w = true → w.before (([.ref (K z)] : List Value).toArray) s = true := fun h g => hts _ (tt_of h g)
  have hl := lv_entry ([.ref (K z)]) (n := 1) (Nat.le_of_ble_eq_true rfl)
  rw [lg_entry_eq]
  generalize (lg_sl ([.ref (K z)]) ++ List.replicate (1 - (lg_sl ([.ref (K z)])).length) Slot.unset).toArray = ls at hl ⊢
  have hl : lv_has ls 1 [(0, .ref (K z))] := hl
  obtain ⟨hO, hco, hva, hT⟩ := X.str.1 z hz
  refine va_gets hx hb X.2.2.2.2.2.1 hS hown (hmt jf_String_38 rfl) (fun _ h => h) jd_isL_0 ?_
  refine lv_if_eq (tgt := 17) hx hb jd_isL_3 (by decide) (fun q => absurd q (by decide)) (fun _ => ?_)
  refine lv_aload_n hx hb jd_isL_6 rfl (lv_at hl 0 rfl) ?_
  refine vk_getf hx hb hco hS hown (hmt jf_String_15 rfl) (fun _ h => h) jd_isL_7 ?_
  refine lv_if_ne (tgt := 17) hx hb jd_isL_10 (by decide) (fun q => absurd rfl q) (fun _ => ?_)
  refine lv_iconst (v := 1) hx hb jd_isL_13 (by decide) ?_
  refine lv_goto (tgt := 18) hx hb jd_isL_14 (by decide) ?_
  exact W.zret (v := 1) (ty := .boolean) hx hb hr rfl (fun t ht hW => ⟨rfl, ht⟩) hS.2.2 jd_isL_18
set_option maxHeartbeats 4000000 in
theorem jm_cod {b : Nat} {D : va_G} {cA K V : Nat → Nat} {sc : Nat × (Nat → Int32)} (l : Launch) {z : Nat} (hz : z < 4) : Met l jy_cod (Jvm.Cond.code jy_cod jc_cod 1 (some .byte) :: TT) ({ frames := 0, cells := 0, slots := 0, locals := 0 }) (va_Pc [.ref (K z)] (fun U => XT b D cA K V sc U)) (jQ (some (.int 0))) 0 0 (mA0 b) := by
  refine Met.ofW (cc := jc_cod) (maxL := 1) (ret := (some .byte)) (by decide) rfl ?_
  intro p e s m args below meth c s₁ B hml hv
  obtain ⟨rfl, X⟩ := hv
  have hx := B.exec
  have hb := B.bytes
  have hr := B.returns
  have hts0 := atoms_spec (ws := Jvm.Cond.code jy_cod jc_cod 1 (some .byte) :: TT) B.pre
  have hts : ∀ w ∈ TT, w.before (([.ref (K z)] : List Value).toArray) s = true := fun w hw => hts0 w (List.mem_cons_of_mem _ hw)
  have hown : s.vm.findClass "java/lang/String" = some m.cls := findClass_of_methodNamed B.named
  have hlocks := B.notSynchronized
  have hS : va_S (mA0 b) s.heap s.heap [] := va_S.rf
  have hmt : ∀ {w : Jvm.Cond}, w ∈ tables_1 → goodWord w = true → w.before (([.ref (K z)] : List Value).toArray) s = true := fun h g => hts _ (tt_of h g)
  have hl := lv_entry ([.ref (K z)]) (n := 1) (Nat.le_of_ble_eq_true rfl)
  rw [lg_entry_eq]
  generalize (lg_sl ([.ref (K z)]) ++ List.replicate (1 - (lg_sl ([.ref (K z)])).length) Slot.unset).toArray = ls at hl ⊢
  have hl : lv_has ls 1 [(0, .ref (K z))] := hl
  obtain ⟨hO, hco, hva, hT⟩ := X.str.1 z hz
  refine va_gets hx hb X.2.2.2.2.2.1 hS hown (hmt jf_String_38 rfl) (fun _ h => h) jd_cod_0 ?_
  refine lv_if_eq (tgt := 13) hx hb jd_cod_3 (by decide) (fun q => absurd q (by decide)) (fun _ => ?_)
  refine lv_aload_n hx hb jd_cod_6 rfl (lv_at hl 0 rfl) ?_
  refine vk_getf hx hb hco hS hown (hmt jf_String_15 rfl) (fun _ h => h) jd_cod_7 ?_
  refine lv_goto (tgt := 14) hx hb jd_cod_10 (by decide) ?_
  exact W.zret (v := 0) (ty := .byte) hx hb hr rfl (fun t ht hW => ⟨rfl, ht⟩) hS.2.2 jd_cod_14
set_option maxHeartbeats 4000000 in
theorem jm_len {b : Nat} {D : va_G} {cA K V : Nat → Nat} {sc : Nat × (Nat → Int32)} (l : Launch) {z : Nat} (hz : z < 4) : Met l jy_len (Jvm.Cond.code jy_len jc_len 1 (some .int) :: TT) ({ frames := 1, cells := 0, slots := 0, locals := 20 }) (va_Pc [.ref (K z)] (fun U => XT b D cA K V sc U)) (jQ (some (.int (Int32.ofNat (sBy z).length)))) 0 0 (mA0 b) := by
  refine Met.ofW (cc := jc_len) (maxL := 1) (ret := (some .int)) (by decide) rfl ?_
  intro p e s m args below meth c s₁ B hml hv
  obtain ⟨rfl, X⟩ := hv
  have hx := B.exec
  have hb := B.bytes
  have hr := B.returns
  have hts0 := atoms_spec (ws := Jvm.Cond.code jy_len jc_len 1 (some .int) :: TT) B.pre
  have hts : ∀ w ∈ TT, w.before (([.ref (K z)] : List Value).toArray) s = true := fun w hw => hts0 w (List.mem_cons_of_mem _ hw)
  have hown : s.vm.findClass "java/lang/String" = some m.cls := findClass_of_methodNamed B.named
  have hlocks := B.notSynchronized
  have hS : va_S (mA0 b) s.heap s.heap [] := va_S.rf
  have hmt : ∀ {w : Jvm.Cond}, w ∈ tables_1 → goodWord w = true → w.before (([.ref (K z)] : List Value).toArray) s = true := fun h g => hts _ (tt_of h g)
  have hl := lv_entry ([.ref (K z)]) (n := 1) (Nat.le_of_ble_eq_true rfl)
  rw [lg_entry_eq]
  generalize (lg_sl ([.ref (K z)]) ++ List.replicate (1 - (lg_sl ([.ref (K z)])).length) Slot.unset).toArray = ls at hl ⊢
  have hl : lv_has ls 1 [(0, .ref (K z))] := hl
  obtain ⟨hO, hco, hva, hT⟩ := X.str.1 z hz
  rw [(sBy_at hz).1, (sBy_at hz).2] at hT
  refine lv_aload_n hx hb jd_len_0 rfl (lv_at hl 0 rfl) ?_
  refine vk_getf hx hb hva hS hown (hmt jf_String_9 rfl) (fun _ h => h) jd_len_1 ?_
  refine va_tlen hx hb hT hS (v := nI (sBy z).length) rfl jd_len_4 ?_
  refine lv_aload_n hx hb jd_len_5 rfl (lv_at hl 0 rfl) ?_
  refine w_callJ (va_runV (As := []) (C := "java/lang/String") (rest := [.int (nI (sBy z).length)]) ⟨hx, hb, hml, hown, hts⟩ (jm_cod (b := b) (D := D) (cA := cA) (K := K) (V := V) (sc := sc) l hz) ⟨callB_tt (n := 0) hts jw_cod ji_cod (hmt jl_cod_335 rfl) (by decide) (by decide +kernel) ⟨Nat.le_of_ble_eq_true rfl, Nat.le_of_ble_eq_true rfl⟩, hmt js_cod rfl, hmt jv_cod rfl⟩ ⟨XT.blind, vk_recv X.str hz hS, fun U hU hW => ⟨rfl, X.step hW (by rw [hU]; exact hS)⟩⟩ rfl rfl hl.1 rfl (lv_room (Nat.le_of_ble_eq_true rfl)) jd_len_6 ⟨Nat.zero_le _, Nat.zero_le _⟩) hS (fun locs1 hS => ?_)
  refine lv_ishr hx hb jd_len_9 ?_
  have e : nI (sBy z).length >>> ((0 : Int32) &&& 31) = Int32.ofNat (sBy z).length := by rcases (show z = 0 ∨ z = 1 ∨ z = 2 ∨ z = 3 by omega) with rfl | rfl | rfl | rfl <;> decide
  rw [e]
  exact W.iret (v := Int32.ofNat (sBy z).length) hx hb hr (fun t ht hW => ⟨rfl, ht⟩) hS.2.2 jd_len_10
set_option maxHeartbeats 4000000 in
theorem jm_cha {b : Nat} {D : va_G} {cA K V : Nat → Nat} {sc : Nat × (Nat → Int32)} (l : Launch) {z : Nat} {i : Int32} (hz : z < 4) (hi : ¬ (i < 0 ∨ (sBy z).length ≤ i.toNatClampNeg)) : Met l jy_cha (Jvm.Cond.code jy_cha jc_cha 2 (some .char) :: TT) ({ frames := 3, cells := 0, slots := 0, locals := 64 }) (va_Pc [.ref (K z), .int i] (fun U => XT b D cA K V sc U)) (jQ (some (.int ((sBy z).getD i.toNatClampNeg 0)))) 0 0 (mA0 b) := by
  refine Met.ofW (cc := jc_cha) (maxL := 2) (ret := (some .char)) (by decide) rfl ?_
  intro p e s m args below meth c s₁ B hml hv
  obtain ⟨rfl, X⟩ := hv
  have hx := B.exec
  have hb := B.bytes
  have hr := B.returns
  have hts0 := atoms_spec (ws := Jvm.Cond.code jy_cha jc_cha 2 (some .char) :: TT) B.pre
  have hts : ∀ w ∈ TT, w.before (([.ref (K z), .int i] : List Value).toArray) s = true := fun w hw => hts0 w (List.mem_cons_of_mem _ hw)
  have hown : s.vm.findClass "java/lang/String" = some m.cls := findClass_of_methodNamed B.named
  have hlocks := B.notSynchronized
  have hS : va_S (mA0 b) s.heap s.heap [] := va_S.rf
  have hmt : ∀ {w : Jvm.Cond}, w ∈ tables_1 → goodWord w = true → w.before (([.ref (K z), .int i] : List Value).toArray) s = true := fun h g => hts _ (tt_of h g)
  have hl := lv_entry ([.ref (K z), .int i]) (n := 2) (Nat.le_of_ble_eq_true rfl)
  rw [lg_entry_eq]
  generalize (lg_sl ([.ref (K z), .int i]) ++ List.replicate (2 - (lg_sl ([.ref (K z), .int i])).length) Slot.unset).toArray = ls at hl ⊢
  have hl : lv_has ls 2 [(0, .ref (K z)), (1, .int i)] := hl
  obtain ⟨hO, hco, hva, hT⟩ := X.str.1 z hz
  refine lv_aload_n hx hb jd_cha_0 rfl (lv_at hl 0 rfl) ?_
  refine w_callJ (va_runV (As := []) (C := "java/lang/String") (rest := []) ⟨hx, hb, hml, hown, hts⟩ (jm_isL (b := b) (D := D) (cA := cA) (K := K) (V := V) (sc := sc) l hz) ⟨callB_tt (n := 0) hts jw_isL ji_isL (hmt jl_isL_492 rfl) (by decide) (by decide +kernel) ⟨Nat.le_of_ble_eq_true rfl, Nat.le_of_ble_eq_true rfl⟩, hmt js_isL rfl, hmt jv_isL rfl⟩ ⟨XT.blind, vk_recv X.str hz hS, fun U hU hW => ⟨rfl, X.step hW (by rw [hU]; exact hS)⟩⟩ rfl rfl hl.1 rfl (lv_room (Nat.le_of_ble_eq_true rfl)) jd_cha_1 ⟨Nat.zero_le _, Nat.zero_le _⟩) hS (fun locs1 hS => ?_)
  refine lv_if_eq (tgt := 16) hx hb jd_cha_4 (by decide) (fun q => absurd q (by decide)) (fun _ => ?_)
  refine lv_aload_n hx hb jd_cha_7 rfl (lv_at hl 0 rfl) ?_
  refine vk_getf hx hb hva hS hown (hmt jf_String_9 rfl) (fun _ h => h) jd_cha_8 ?_
  refine lv_iload_n hx hb jd_cha_11 rfl (lv_at hl 1 rfl) ?_
  refine w_callJ (va_runS (As := [.ref (V z), .int i]) (rest := []) ⟨hx, hb, hml, hown, hts⟩ (jm_chL (b := b) (D := D) (cA := cA) (K := K) (V := V) (sc := sc) l hz hi) ⟨callB_tt (n := 2) hts jw_chL ji_chL (hmt jl_chL_495 rfl) (by decide) (by decide +kernel) ⟨Nat.le_of_ble_eq_true rfl, Nat.le_of_ble_eq_true rfl⟩, hmt js_chL rfl⟩ ⟨XT.blind, fun U hU hW => ⟨rfl, X.step hW (by rw [hU]; exact hS)⟩⟩ rfl rfl hl.1 rfl (lv_room (Nat.le_of_ble_eq_true rfl)) jd_cha_12 ⟨Nat.zero_le _, Nat.zero_le _⟩) hS (fun locs1 hS => ?_)
  refine W.zret (v := (sBy z).getD i.toNatClampNeg 0) (ty := .char) hx hb hr ?_ (fun t ht hW => ⟨rfl, ht⟩) hS.2.2 jd_cha_15
  have hall : ∀ z, z < 4 → ∀ j, j < (sBy z).length → narrow .char (.int ((sBy z).getD j 0)) = .int ((sBy z).getD j 0) := by decide +kernel
  exact hall z hz _ (Nat.not_le.mp fun q => hi (Or.inr q))
section TEXT
variable {p : Program} {l : Launch} {e : Env} {R : Room} {s : State} {m : MethodId} {args : Array Value} {below : List Frame} {meth : Method} {c0 : Code} {H : Heap} {locs : List Loc} {kc ks : Nat} {Q : State → Prop}
variable {b : Nat} {D : va_G} {cA K V : Nat → Nat} {M pc : Nat} {lsr : Array Slot} {ls : mL} {sc : Nat × (Nat → Int32)}
theorem w_slen {z : UInt32} {r : List Value} (C : CX M p R s m args meth c0) (X : XT b D cA K V sc s) (hM : mCl M = 5) (hd : 2 ≤ mDp M) (hz : z.toNat < 4) (hr : mCat r ≤ 8) (hS : va_S (mA0 b) s.heap H locs) (hL : mLS b K lsr (mLc M) ls) (hkc : kc ≤ R.cells) (hks : ks ≤ R.slots) (hdg : decode (mB M) pc = .ok (.invokevirtual iLEN, 3))
    (kk : ∀ locs1, va_S (mA0 b) s.heap H locs1 → W p l e R s m args below meth c0 H locs1 kc ks Q (F0 m (pc + 3) lsr (.int (Int32.ofNat (sBy z.toNat).length) :: r.map (mv b K)))) : W p l e R s m args below meth c0 H locs kc ks Q (F0 m pc lsr (.ref (K z.toNat) :: r.map (mv b K))) := by
  obtain ⟨hx, hb, hml, hown, hts, -, hRf, hRl⟩ := C
  have hown : s.vm.findClass "ReinHall$Tokens" = some m.cls := by rw [hM] at hown; exact hown
  refine w_callJ (va_runV (As := []) (C := "java/lang/String") (rest := r.map (mv b K)) ⟨hx, hb, hml, hown, hts⟩ (jm_len (b := b) (D := D) (cA := cA) (K := K) (V := V) (sc := sc) l hz) ⟨callB_tt (n := 0) hts jw_len ji_len (hts _ (tt_of jl_len_87 rfl)) (by decide) (by decide +kernel) ⟨by show 1 + 1 ≤ _; omega, by show 8 + (1 + 11) + 20 ≤ _; omega⟩, hts _ (tt_of js_len rfl), hts _ (tt_of jv_len rfl)⟩ ⟨XT.blind, vk_recv X.str hz hS, fun U hU hW => ⟨rfl, X.step hW (by rw [hU]; exact hS)⟩⟩ rfl rfl hL.1 rfl (lv_room' b K hr) hdg ⟨hkc, hks⟩) hS (fun locs1 hS => kk locs1 hS)
theorem w_schr {z : UInt32} {i : Int32} {r : List Value} (C : CX M p R s m args meth c0) (X : XT b D cA K V sc s) (hM : mCl M = 5) (hd : 4 ≤ mDp M) (hz : z.toNat < 4) (hi : ¬ (i < 0 ∨ (sBy z.toNat).length ≤ i.toNatClampNeg)) (hr : mCat r ≤ 8) (hS : va_S (mA0 b) s.heap H locs) (hL : mLS b K lsr (mLc M) ls) (hkc : kc ≤ R.cells) (hks : ks ≤ R.slots) (hdg : decode (mB M) pc = .ok (.invokevirtual iCHA, 3))
    (kk : ∀ locs1, va_S (mA0 b) s.heap H locs1 → W p l e R s m args below meth c0 H locs1 kc ks Q (F0 m (pc + 3) lsr (.int ((sBy z.toNat).getD i.toNatClampNeg 0) :: r.map (mv b K)))) : W p l e R s m args below meth c0 H locs kc ks Q (F0 m pc lsr (.int i :: .ref (K z.toNat) :: r.map (mv b K))) := by
  obtain ⟨hx, hb, hml, hown, hts, -, hRf, hRl⟩ := C
  have hown : s.vm.findClass "ReinHall$Tokens" = some m.cls := by rw [hM] at hown; exact hown
  refine w_callJ (va_runV (As := [.int i]) (C := "java/lang/String") (rest := r.map (mv b K)) ⟨hx, hb, hml, hown, hts⟩ (jm_cha (b := b) (D := D) (cA := cA) (K := K) (V := V) (sc := sc) l hz hi) ⟨callB_tt (n := 1) hts jw_cha ji_cha (hts _ (tt_of jl_cha_91 rfl)) (by decide) (by decide +kernel) ⟨by show 3 + 1 ≤ _; omega, by show 8 + (2 + 11) + 64 ≤ _; omega⟩, hts _ (tt_of js_cha rfl), hts _ (tt_of jv_cha rfl)⟩ ⟨XT.blind, vk_recv X.str hz hS, fun U hU hW => ⟨rfl, X.step hW (by rw [hU]; exact hS)⟩⟩ rfl rfl hL.1 rfl (lv_room' b K hr) hdg ⟨hkc, hks⟩) hS (fun locs1 hS => kk locs1 hS)
end TEXT
