/-! THE TEXTS: length() and charAt(k) of the four constants. -/
theorem nbeq_f {a b : Nat} (h : a ≠ b) : Nat.beq a b = false := by
  cases hz : Nat.beq a b with
  | true => exact absurd (Nat.eq_of_beq_eq_true hz) h
  | false => rfl
section TEXT
variable {p : Program} {l : Launch} {e : Env} {R : Room} {s : State} {m : MethodId} {args : Array Value} {below : List Frame} {meth : Method} {c0 : Code} {H : Heap} {locs : List Loc} {kc ks : Nat} {Q : State → Prop}
variable {b : Nat} {D : va_G} {cA K V : Nat → Nat} {M pc : Nat} {lsr : Array Slot} {ls : mL} {sc : Nat × (Nat → Int32)}
theorem w_slen {z : UInt32} {r : List Value} (C : CX M p R s m args meth c0) (X : XT b D cA K V sc s) (hM : mCl M = 5) (hd : 2 ≤ mDp M) (hz : z.toNat < 4) (hr : mCat r ≤ 8) (hS : va_S (mA0 b) s.heap H locs) (hL : mLS b K lsr (mLc M) ls) (hkc : kc ≤ R.cells) (hks : ks ≤ R.slots) (hdg : decode (mB M) pc = .ok (.invokevirtual iLEN, 3))
    (kk : W p l e R s m args below meth c0 H locs kc ks Q (F0 m (pc + 3) lsr (.int (Int32.ofNat (sBy z.toNat).length) :: r.map (mv b K)))) : W p l e R s m args below meth c0 H locs kc ks Q (F0 m pc lsr (.ref (K z.toNat) :: r.map (mv b K))) := by
  sorry
theorem w_schr {z : UInt32} {i : Int32} {r : List Value} (C : CX M p R s m args meth c0) (X : XT b D cA K V sc s) (hM : mCl M = 5) (hd : 4 ≤ mDp M) (hz : z.toNat < 4) (hi : ¬ (i < 0 ∨ (sBy z.toNat).length ≤ i.toNatClampNeg)) (hr : mCat r ≤ 8) (hS : va_S (mA0 b) s.heap H locs) (hL : mLS b K lsr (mLc M) ls) (hkc : kc ≤ R.cells) (hks : ks ≤ R.slots) (hdg : decode (mB M) pc = .ok (.invokevirtual iCHA, 3))
    (kk : W p l e R s m args below meth c0 H locs kc ks Q (F0 m (pc + 3) lsr (.int ((sBy z.toNat).getD i.toNatClampNeg 0) :: r.map (mv b K)))) : W p l e R s m args below meth c0 H locs kc ks Q (F0 m pc lsr (.int i :: .ref (K z.toNat) :: r.map (mv b K))) := by
  sorry
end TEXT
