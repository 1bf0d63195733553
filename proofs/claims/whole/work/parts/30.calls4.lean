/-! CALLS on book and s: about. -/
section CALLS4
variable {b : Nat} {u v : Int64} {A : Nat → Nat → Int32} {τ : Nat × Nat × Nat × (Nat → Int32)} {a x : Int32}
variable {tick kept : Int32} {mr ar lr nr m : Nat} {mf af lf nf s : Nat → Int32}
theorem cntF_congr {P Q : Nat → Bool} : ∀ n, (∀ k, k < n → P k = Q k) → cntF P n = cntF Q n
  | 0, _ => by rw [cntF, cntF]
  | n + 1, h => by rw [cntF, cntF, cntF_congr n (fun k hk => h k (by omega)), h n (by omega)]
end CALLS4
