/-! THE EQUATIONS, an instruction each: printed by a program. -/

theorem k0_0 : cod 0 0 = some (.aload_n 0, 1, 0, 0, 0, 0) := rfl
theorem e0_0 (x : Nat) (ls : mL) (st : List Value) (σ : mS) : ev 0 0 (some (.ref x) :: ls) st σ = ev 0 1 (some (.ref x) :: ls) (.ref x :: st) σ := e_aload1 k0_0 rfl
theorem k0_1 : cod 0 1 = some (.invokespecial 3, 3, 0, 0, 9, 2) := rfl
theorem e0_1 (x : Nat) (ls : mL) (st : List Value) (σ : mS) (hz : mCat st ≤ 8) : ev 0 1 ls (.ref x :: st) σ = ev 0 4 ls st σ := e_objInit k0_1 hz
theorem k0_4 : cod 0 4 = some (.aload_n 0, 1, 0, 0, 0, 0) := rfl
theorem e0_4 (x : Nat) (ls : mL) (st : List Value) (σ : mS) : ev 0 4 (some (.ref x) :: ls) st σ = ev 0 5 (some (.ref x) :: ls) (.ref x :: st) σ := e_aload1 k0_4 rfl
theorem k0_5 : cod 0 5 = some (.new 9, 3, 3, 0, 0, 0) := rfl
theorem e0_5 (ls : mL) (st : List Value) (σ : mS) : ev 0 5 ls st σ = ev 0 8 ls (.ref σ.2.1 :: st) (mnew σ (.inr (3, (ctT 3).map dfv)) (ctT 3).length) := e_new k0_5
theorem k0_8 : cod 0 8 = some (.dup, 1, 0, 0, 0, 0) := rfl
theorem e0_8i (x : Int32) (ls : mL) (st : List Value) (σ : mS) : ev 0 8 ls (.int x :: st) σ = ev 0 9 ls (.int x :: .int x :: st) σ := e_dupI k0_8
theorem e0_8r (x : Nat) (ls : mL) (st : List Value) (σ : mS) : ev 0 8 ls (.ref x :: st) σ = ev 0 9 ls (.ref x :: .ref x :: st) σ := e_dupR k0_8
theorem k0_9 : cod 0 9 = some (.bipush (8), 2, 0, 0, 0, 0) := rfl
theorem e0_9 (ls : mL) (st : List Value) (σ : mS) : ev 0 9 ls st σ = ev 0 11 ls (.int 8 :: st) σ := e_bipush 8 k0_9 (by decide)
theorem k0_11 : cod 0 11 = some (.iconst 3, 1, 0, 0, 0, 0) := rfl
theorem e0_11 (ls : mL) (st : List Value) (σ : mS) : ev 0 11 ls st σ = ev 0 12 ls (.int 3 :: st) σ := e_iconst 3 k0_11 (by decide)
theorem k0_12 : cod 0 12 = some (.invokespecial 11, 3, 32, 2, 0, 0) := rfl
theorem e0_12 (t : Nat) (x0 : Int32) (x1 : Int32) (ls : mL) (st : List Value) (σ : mS) (hm : mCat st ≤ 8) : ev 0 12 ls (.int x1 :: .int x0 :: .ref t :: st) σ = (evM 32 [.ref t, .int x0, .int x1] σ).bind fun z => ev 0 15 ls (z.1.toList ++ st) z.2 := e_callI k0_12 (by decide) rfl ⟨hm, Nat.le_of_ble_eq_true rfl⟩
theorem k0_15 : cod 0 15 = some (.putfield 14, 3, 0, 0, 2, 3) := rfl
theorem e0_15 (x : Nat) (t : Nat) (ls : mL) (st : List Value) (σ : mS) : ev 0 15 ls (.ref x :: .ref t :: st) σ = pfK (σ.1 t) 0 0 (.ref x) (fun e => ev 0 18 ls st (mset σ t e)) := e_putR k0_15
theorem k0_18 : cod 0 18 = some (.aload_n 0, 1, 0, 0, 0, 0) := rfl
theorem e0_18 (x : Nat) (ls : mL) (st : List Value) (σ : mS) : ev 0 18 (some (.ref x) :: ls) st σ = ev 0 19 (some (.ref x) :: ls) (.ref x :: st) σ := e_aload1 k0_18 rfl
theorem k0_19 : cod 0 19 = some (.new 9, 3, 3, 0, 0, 0) := rfl
theorem e0_19 (ls : mL) (st : List Value) (σ : mS) : ev 0 19 ls st σ = ev 0 22 ls (.ref σ.2.1 :: st) (mnew σ (.inr (3, (ctT 3).map dfv)) (ctT 3).length) := e_new k0_19
theorem k0_22 : cod 0 22 = some (.dup, 1, 0, 0, 0, 0) := rfl
theorem e0_22i (x : Int32) (ls : mL) (st : List Value) (σ : mS) : ev 0 22 ls (.int x :: st) σ = ev 0 23 ls (.int x :: .int x :: st) σ := e_dupI k0_22
theorem e0_22r (x : Nat) (ls : mL) (st : List Value) (σ : mS) : ev 0 22 ls (.ref x :: st) σ = ev 0 23 ls (.ref x :: .ref x :: st) σ := e_dupR k0_22
theorem k0_23 : cod 0 23 = some (.iconst 4, 1, 0, 0, 0, 0) := rfl
theorem e0_23 (ls : mL) (st : List Value) (σ : mS) : ev 0 23 ls st σ = ev 0 24 ls (.int 4 :: st) σ := e_iconst 4 k0_23 (by decide)
theorem k0_24 : cod 0 24 = some (.iconst 5, 1, 0, 0, 0, 0) := rfl
theorem e0_24 (ls : mL) (st : List Value) (σ : mS) : ev 0 24 ls st σ = ev 0 25 ls (.int 5 :: st) σ := e_iconst 5 k0_24 (by decide)
theorem k0_25 : cod 0 25 = some (.invokespecial 11, 3, 32, 2, 0, 0) := rfl
theorem e0_25 (t : Nat) (x0 : Int32) (x1 : Int32) (ls : mL) (st : List Value) (σ : mS) (hm : mCat st ≤ 8) : ev 0 25 ls (.int x1 :: .int x0 :: .ref t :: st) σ = (evM 32 [.ref t, .int x0, .int x1] σ).bind fun z => ev 0 28 ls (z.1.toList ++ st) z.2 := e_callI k0_25 (by decide) rfl ⟨hm, Nat.le_of_ble_eq_true rfl⟩
theorem k0_28 : cod 0 28 = some (.putfield 20, 3, 0, 1, 2, 3) := rfl
theorem e0_28 (x : Nat) (t : Nat) (ls : mL) (st : List Value) (σ : mS) : ev 0 28 ls (.ref x :: .ref t :: st) σ = pfK (σ.1 t) 0 1 (.ref x) (fun e => ev 0 31 ls st (mset σ t e)) := e_putR k0_28
theorem k0_31 : cod 0 31 = some (.aload_n 0, 1, 0, 0, 0, 0) := rfl
theorem e0_31 (x : Nat) (ls : mL) (st : List Value) (σ : mS) : ev 0 31 (some (.ref x) :: ls) st σ = ev 0 32 (some (.ref x) :: ls) (.ref x :: st) σ := e_aload1 k0_31 rfl
theorem k0_32 : cod 0 32 = some (.new 9, 3, 3, 0, 0, 0) := rfl
theorem e0_32 (ls : mL) (st : List Value) (σ : mS) : ev 0 32 ls st σ = ev 0 35 ls (.ref σ.2.1 :: st) (mnew σ (.inr (3, (ctT 3).map dfv)) (ctT 3).length) := e_new k0_32
theorem k0_35 : cod 0 35 = some (.dup, 1, 0, 0, 0, 0) := rfl
theorem e0_35i (x : Int32) (ls : mL) (st : List Value) (σ : mS) : ev 0 35 ls (.int x :: st) σ = ev 0 36 ls (.int x :: .int x :: st) σ := e_dupI k0_35
theorem e0_35r (x : Nat) (ls : mL) (st : List Value) (σ : mS) : ev 0 35 ls (.ref x :: st) σ = ev 0 36 ls (.ref x :: .ref x :: st) σ := e_dupR k0_35
theorem k0_36 : cod 0 36 = some (.bipush (20), 2, 0, 0, 0, 0) := rfl
theorem e0_36 (ls : mL) (st : List Value) (σ : mS) : ev 0 36 ls st σ = ev 0 38 ls (.int 20 :: st) σ := e_bipush 20 k0_36 (by decide)
theorem k0_38 : cod 0 38 = some (.bipush (8), 2, 0, 0, 0, 0) := rfl
theorem e0_38 (ls : mL) (st : List Value) (σ : mS) : ev 0 38 ls st σ = ev 0 40 ls (.int 8 :: st) σ := e_bipush 8 k0_38 (by decide)
theorem k0_40 : cod 0 40 = some (.invokespecial 11, 3, 32, 2, 0, 0) := rfl
theorem e0_40 (t : Nat) (x0 : Int32) (x1 : Int32) (ls : mL) (st : List Value) (σ : mS) (hm : mCat st ≤ 8) : ev 0 40 ls (.int x1 :: .int x0 :: .ref t :: st) σ = (evM 32 [.ref t, .int x0, .int x1] σ).bind fun z => ev 0 43 ls (z.1.toList ++ st) z.2 := e_callI k0_40 (by decide) rfl ⟨hm, Nat.le_of_ble_eq_true rfl⟩
theorem k0_43 : cod 0 43 = some (.putfield 23, 3, 0, 2, 2, 3) := rfl
theorem e0_43 (x : Nat) (t : Nat) (ls : mL) (st : List Value) (σ : mS) : ev 0 43 ls (.ref x :: .ref t :: st) σ = pfK (σ.1 t) 0 2 (.ref x) (fun e => ev 0 46 ls st (mset σ t e)) := e_putR k0_43
theorem k0_46 : cod 0 46 = some (.aload_n 0, 1, 0, 0, 0, 0) := rfl
theorem e0_46 (x : Nat) (ls : mL) (st : List Value) (σ : mS) : ev 0 46 (some (.ref x) :: ls) st σ = ev 0 47 (some (.ref x) :: ls) (.ref x :: st) σ := e_aload1 k0_46 rfl
theorem k0_47 : cod 0 47 = some (.new 9, 3, 3, 0, 0, 0) := rfl
theorem e0_47 (ls : mL) (st : List Value) (σ : mS) : ev 0 47 ls st σ = ev 0 50 ls (.ref σ.2.1 :: st) (mnew σ (.inr (3, (ctT 3).map dfv)) (ctT 3).length) := e_new k0_47
theorem k0_50 : cod 0 50 = some (.dup, 1, 0, 0, 0, 0) := rfl
theorem e0_50i (x : Int32) (ls : mL) (st : List Value) (σ : mS) : ev 0 50 ls (.int x :: st) σ = ev 0 51 ls (.int x :: .int x :: st) σ := e_dupI k0_50
theorem e0_50r (x : Nat) (ls : mL) (st : List Value) (σ : mS) : ev 0 50 ls (.ref x :: st) σ = ev 0 51 ls (.ref x :: .ref x :: st) σ := e_dupR k0_50
theorem k0_51 : cod 0 51 = some (.bipush (60), 2, 0, 0, 0, 0) := rfl
theorem e0_51 (ls : mL) (st : List Value) (σ : mS) : ev 0 51 ls st σ = ev 0 53 ls (.int 60 :: st) σ := e_bipush 60 k0_51 (by decide)
theorem k0_53 : cod 0 53 = some (.bipush (10), 2, 0, 0, 0, 0) := rfl
theorem e0_53 (ls : mL) (st : List Value) (σ : mS) : ev 0 53 ls st σ = ev 0 55 ls (.int 10 :: st) σ := e_bipush 10 k0_53 (by decide)
theorem k0_55 : cod 0 55 = some (.invokespecial 11, 3, 32, 2, 0, 0) := rfl
theorem e0_55 (t : Nat) (x0 : Int32) (x1 : Int32) (ls : mL) (st : List Value) (σ : mS) (hm : mCat st ≤ 8) : ev 0 55 ls (.int x1 :: .int x0 :: .ref t :: st) σ = (evM 32 [.ref t, .int x0, .int x1] σ).bind fun z => ev 0 58 ls (z.1.toList ++ st) z.2 := e_callI k0_55 (by decide) rfl ⟨hm, Nat.le_of_ble_eq_true rfl⟩
theorem k0_58 : cod 0 58 = some (.putfield 26, 3, 0, 3, 2, 3) := rfl
theorem e0_58 (x : Nat) (t : Nat) (ls : mL) (st : List Value) (σ : mS) : ev 0 58 ls (.ref x :: .ref t :: st) σ = pfK (σ.1 t) 0 3 (.ref x) (fun e => ev 0 61 ls st (mset σ t e)) := e_putR k0_58
theorem k0_61 : cod 0 61 = some (.return_, 1, 0, 0, 0, 0) := rfl
theorem e0_61 (ls : mL) (σ : mS) : ev 0 61 ls [] σ = some (none, σ) := e_vret k0_61 rfl
theorem m0 (t : Nat) (σ : mS) : evM 0 [.ref t] σ = ev 0 0 [some (.ref t)] [] σ := rfl
theorem k1_0 : cod 1 0 = some (.aload_n 0, 1, 0, 0, 0, 0) := rfl
theorem e1_0 (x : Nat) (ls : mL) (st : List Value) (σ : mS) : ev 1 0 (some (.ref x) :: ls) st σ = ev 1 1 (some (.ref x) :: ls) (.ref x :: st) σ := e_aload1 k1_0 rfl
theorem k1_1 : cod 1 1 = some (.getfield 14, 3, 0, 0, 0, 3) := rfl
theorem e1_1 (t : Nat) (ls : mL) (st : List Value) (σ : mS) : ev 1 1 ls (.ref t :: st) σ = gfK (σ.1 t) 0 0 (fun v => ev 1 4 ls (v :: st) σ) := e_getf k1_1
theorem k1_4 : cod 1 4 = some (.invokevirtual 37, 3, 33, 0, 0, 3) := rfl
theorem e1_4 (t : Nat) (ls : mL) (st : List Value) (σ : mS) (hm : mCat st ≤ 8) : ev 1 4 ls (.ref t :: st) σ = isC (σ.1 t) 3 ((evM 33 [.ref t] σ).bind fun z => ev 1 7 ls (z.1.toList ++ st) z.2) := e_callVK k1_4 (by decide) rfl ⟨hm, Nat.le_of_ble_eq_true rfl⟩
theorem k1_7 : cod 1 7 = some (.istore_n 3, 1, 0, 0, 0, 0) := rfl
theorem e1_7i (a0 a1 : Option Value) (y : Int32) (o : Option Value) (x : Int32) (ls : mL) (st : List Value) (σ : mS) : ev 1 7 (a0 :: a1 :: some (.int y) :: o :: ls) (.int x :: st) σ = ev 1 8 (a0 :: a1 :: some (.int y) :: some (.int x) :: ls) st σ := e_istore1 k1_7 (Nat.le_add_left 4 ls.length)
theorem e1_7n (a0 a1 : Option Value) (o : Option Value) (x : Int32) (ls : mL) (st : List Value) (σ : mS) : ev 1 7 (a0 :: a1 :: none :: o :: ls) (.int x :: st) σ = ev 1 8 (a0 :: a1 :: none :: some (.int x) :: ls) st σ := e_istore1 k1_7 (Nat.le_add_left 4 ls.length)
theorem e1_7r (a0 a1 : Option Value) (y : Nat) (o : Option Value) (x : Int32) (ls : mL) (st : List Value) (σ : mS) : ev 1 7 (a0 :: a1 :: some (.ref y) :: o :: ls) (.int x :: st) σ = ev 1 8 (a0 :: a1 :: some (.ref y) :: some (.int x) :: ls) st σ := e_istore1 k1_7 (Nat.le_add_left 4 ls.length)
theorem k1_8 : cod 1 8 = some (.aload_n 0, 1, 0, 0, 0, 0) := rfl
theorem e1_8 (x : Nat) (ls : mL) (st : List Value) (σ : mS) : ev 1 8 (some (.ref x) :: ls) st σ = ev 1 9 (some (.ref x) :: ls) (.ref x :: st) σ := e_aload1 k1_8 rfl
theorem k1_9 : cod 1 9 = some (.getfield 14, 3, 0, 0, 0, 3) := rfl
theorem e1_9 (t : Nat) (ls : mL) (st : List Value) (σ : mS) : ev 1 9 ls (.ref t :: st) σ = gfK (σ.1 t) 0 0 (fun v => ev 1 12 ls (v :: st) σ) := e_getf k1_9
theorem k1_12 : cod 1 12 = some (.iload_n 3, 1, 0, 0, 0, 0) := rfl
theorem e1_12 (a0 a1 a2 : Option Value) (x : Int32) (ls : mL) (st : List Value) (σ : mS) : ev 1 12 (a0 :: a1 :: a2 :: some (.int x) :: ls) st σ = ev 1 13 (a0 :: a1 :: a2 :: some (.int x) :: ls) (.int x :: st) σ := e_iload1 k1_12 rfl
theorem k1_13 : cod 1 13 = some (.iconst 0, 1, 0, 0, 0, 0) := rfl
theorem e1_13 (ls : mL) (st : List Value) (σ : mS) : ev 1 13 ls st σ = ev 1 14 ls (.int 0 :: st) σ := e_iconst 0 k1_13 (by decide)
theorem k1_14 : cod 1 14 = some (.iload_n 1, 1, 0, 0, 0, 0) := rfl
theorem e1_14 (a0 : Option Value) (x : Int32) (ls : mL) (st : List Value) (σ : mS) : ev 1 14 (a0 :: some (.int x) :: ls) st σ = ev 1 15 (a0 :: some (.int x) :: ls) (.int x :: st) σ := e_iload1 k1_14 rfl
theorem k1_15 : cod 1 15 = some (.invokevirtual 41, 3, 35, 3, 0, 3) := rfl
theorem e1_15 (t : Nat) (x0 : Int32) (x1 : Int32) (x2 : Int32) (ls : mL) (st : List Value) (σ : mS) (hm : mCat st ≤ 8) : ev 1 15 ls (.int x2 :: .int x1 :: .int x0 :: .ref t :: st) σ = isC (σ.1 t) 3 ((evM 35 [.ref t, .int x0, .int x1, .int x2] σ).bind fun z => ev 1 18 ls (z.1.toList ++ st) z.2) := e_callVK k1_15 (by decide) rfl ⟨hm, Nat.le_of_ble_eq_true rfl⟩
theorem k1_18 : cod 1 18 = some (.aload_n 0, 1, 0, 0, 0, 0) := rfl
theorem e1_18 (x : Nat) (ls : mL) (st : List Value) (σ : mS) : ev 1 18 (some (.ref x) :: ls) st σ = ev 1 19 (some (.ref x) :: ls) (.ref x :: st) σ := e_aload1 k1_18 rfl
theorem k1_19 : cod 1 19 = some (.getfield 14, 3, 0, 0, 0, 3) := rfl
theorem e1_19 (t : Nat) (ls : mL) (st : List Value) (σ : mS) : ev 1 19 ls (.ref t :: st) σ = gfK (σ.1 t) 0 0 (fun v => ev 1 22 ls (v :: st) σ) := e_getf k1_19
theorem k1_22 : cod 1 22 = some (.iload_n 3, 1, 0, 0, 0, 0) := rfl
theorem e1_22 (a0 a1 a2 : Option Value) (x : Int32) (ls : mL) (st : List Value) (σ : mS) : ev 1 22 (a0 :: a1 :: a2 :: some (.int x) :: ls) st σ = ev 1 23 (a0 :: a1 :: a2 :: some (.int x) :: ls) (.int x :: st) σ := e_iload1 k1_22 rfl
theorem k1_23 : cod 1 23 = some (.iconst 1, 1, 0, 0, 0, 0) := rfl
theorem e1_23 (ls : mL) (st : List Value) (σ : mS) : ev 1 23 ls st σ = ev 1 24 ls (.int 1 :: st) σ := e_iconst 1 k1_23 (by decide)
theorem k1_24 : cod 1 24 = some (.iload_n 2, 1, 0, 0, 0, 0) := rfl
theorem e1_24 (a0 a1 : Option Value) (x : Int32) (ls : mL) (st : List Value) (σ : mS) : ev 1 24 (a0 :: a1 :: some (.int x) :: ls) st σ = ev 1 25 (a0 :: a1 :: some (.int x) :: ls) (.int x :: st) σ := e_iload1 k1_24 rfl
theorem k1_25 : cod 1 25 = some (.invokevirtual 41, 3, 35, 3, 0, 3) := rfl
theorem e1_25 (t : Nat) (x0 : Int32) (x1 : Int32) (x2 : Int32) (ls : mL) (st : List Value) (σ : mS) (hm : mCat st ≤ 8) : ev 1 25 ls (.int x2 :: .int x1 :: .int x0 :: .ref t :: st) σ = isC (σ.1 t) 3 ((evM 35 [.ref t, .int x0, .int x1, .int x2] σ).bind fun z => ev 1 28 ls (z.1.toList ++ st) z.2) := e_callVK k1_25 (by decide) rfl ⟨hm, Nat.le_of_ble_eq_true rfl⟩
theorem k1_28 : cod 1 28 = some (.iload_n 3, 1, 0, 0, 0, 0) := rfl
theorem e1_28 (a0 a1 a2 : Option Value) (x : Int32) (ls : mL) (st : List Value) (σ : mS) : ev 1 28 (a0 :: a1 :: a2 :: some (.int x) :: ls) st σ = ev 1 29 (a0 :: a1 :: a2 :: some (.int x) :: ls) (.int x :: st) σ := e_iload1 k1_28 rfl
theorem k1_29 : cod 1 29 = some (.ireturn, 1, 0, 0, 0, 0) := rfl
theorem e1_29 (x : Int32) (ls : mL) (σ : mS) : ev 1 29 ls [.int x] σ = some (some (.int x), σ) := e_iret k1_29 rfl
theorem m1 (t : Nat) (x0 : Int32) (x1 : Int32) (σ : mS) : evM 1 [.ref t, .int x0, .int x1] σ = ev 1 0 [some (.ref t), some (.int x0), some (.int x1), none] [] σ := rfl
theorem k2_0 : cod 2 0 = some (.aload_n 0, 1, 0, 0, 0, 0) := rfl
theorem e2_0 (x : Nat) (ls : mL) (st : List Value) (σ : mS) : ev 2 0 (some (.ref x) :: ls) st σ = ev 2 1 (some (.ref x) :: ls) (.ref x :: st) σ := e_aload1 k2_0 rfl
theorem k2_1 : cod 2 1 = some (.getfield 20, 3, 0, 1, 0, 3) := rfl
theorem e2_1 (t : Nat) (ls : mL) (st : List Value) (σ : mS) : ev 2 1 ls (.ref t :: st) σ = gfK (σ.1 t) 0 1 (fun v => ev 2 4 ls (v :: st) σ) := e_getf k2_1
theorem k2_4 : cod 2 4 = some (.invokevirtual 37, 3, 33, 0, 0, 3) := rfl
theorem e2_4 (t : Nat) (ls : mL) (st : List Value) (σ : mS) (hm : mCat st ≤ 8) : ev 2 4 ls (.ref t :: st) σ = isC (σ.1 t) 3 ((evM 33 [.ref t] σ).bind fun z => ev 2 7 ls (z.1.toList ++ st) z.2) := e_callVK k2_4 (by decide) rfl ⟨hm, Nat.le_of_ble_eq_true rfl⟩
theorem k2_7 : cod 2 7 = some (.istore_n 3, 1, 0, 0, 0, 0) := rfl
theorem e2_7i (a0 a1 : Option Value) (y : Int32) (o : Option Value) (x : Int32) (ls : mL) (st : List Value) (σ : mS) : ev 2 7 (a0 :: a1 :: some (.int y) :: o :: ls) (.int x :: st) σ = ev 2 8 (a0 :: a1 :: some (.int y) :: some (.int x) :: ls) st σ := e_istore1 k2_7 (Nat.le_add_left 4 ls.length)
theorem e2_7n (a0 a1 : Option Value) (o : Option Value) (x : Int32) (ls : mL) (st : List Value) (σ : mS) : ev 2 7 (a0 :: a1 :: none :: o :: ls) (.int x :: st) σ = ev 2 8 (a0 :: a1 :: none :: some (.int x) :: ls) st σ := e_istore1 k2_7 (Nat.le_add_left 4 ls.length)
theorem e2_7r (a0 a1 : Option Value) (y : Nat) (o : Option Value) (x : Int32) (ls : mL) (st : List Value) (σ : mS) : ev 2 7 (a0 :: a1 :: some (.ref y) :: o :: ls) (.int x :: st) σ = ev 2 8 (a0 :: a1 :: some (.ref y) :: some (.int x) :: ls) st σ := e_istore1 k2_7 (Nat.le_add_left 4 ls.length)
theorem k2_8 : cod 2 8 = some (.aload_n 0, 1, 0, 0, 0, 0) := rfl
theorem e2_8 (x : Nat) (ls : mL) (st : List Value) (σ : mS) : ev 2 8 (some (.ref x) :: ls) st σ = ev 2 9 (some (.ref x) :: ls) (.ref x :: st) σ := e_aload1 k2_8 rfl
theorem k2_9 : cod 2 9 = some (.getfield 20, 3, 0, 1, 0, 3) := rfl
theorem e2_9 (t : Nat) (ls : mL) (st : List Value) (σ : mS) : ev 2 9 ls (.ref t :: st) σ = gfK (σ.1 t) 0 1 (fun v => ev 2 12 ls (v :: st) σ) := e_getf k2_9
theorem k2_12 : cod 2 12 = some (.iload_n 3, 1, 0, 0, 0, 0) := rfl
theorem e2_12 (a0 a1 a2 : Option Value) (x : Int32) (ls : mL) (st : List Value) (σ : mS) : ev 2 12 (a0 :: a1 :: a2 :: some (.int x) :: ls) st σ = ev 2 13 (a0 :: a1 :: a2 :: some (.int x) :: ls) (.int x :: st) σ := e_iload1 k2_12 rfl
theorem k2_13 : cod 2 13 = some (.iconst 0, 1, 0, 0, 0, 0) := rfl
theorem e2_13 (ls : mL) (st : List Value) (σ : mS) : ev 2 13 ls st σ = ev 2 14 ls (.int 0 :: st) σ := e_iconst 0 k2_13 (by decide)
theorem k2_14 : cod 2 14 = some (.iload_n 2, 1, 0, 0, 0, 0) := rfl
theorem e2_14 (a0 a1 : Option Value) (x : Int32) (ls : mL) (st : List Value) (σ : mS) : ev 2 14 (a0 :: a1 :: some (.int x) :: ls) st σ = ev 2 15 (a0 :: a1 :: some (.int x) :: ls) (.int x :: st) σ := e_iload1 k2_14 rfl
theorem k2_15 : cod 2 15 = some (.invokevirtual 41, 3, 35, 3, 0, 3) := rfl
theorem e2_15 (t : Nat) (x0 : Int32) (x1 : Int32) (x2 : Int32) (ls : mL) (st : List Value) (σ : mS) (hm : mCat st ≤ 8) : ev 2 15 ls (.int x2 :: .int x1 :: .int x0 :: .ref t :: st) σ = isC (σ.1 t) 3 ((evM 35 [.ref t, .int x0, .int x1, .int x2] σ).bind fun z => ev 2 18 ls (z.1.toList ++ st) z.2) := e_callVK k2_15 (by decide) rfl ⟨hm, Nat.le_of_ble_eq_true rfl⟩
theorem k2_18 : cod 2 18 = some (.aload_n 0, 1, 0, 0, 0, 0) := rfl
theorem e2_18 (x : Nat) (ls : mL) (st : List Value) (σ : mS) : ev 2 18 (some (.ref x) :: ls) st σ = ev 2 19 (some (.ref x) :: ls) (.ref x :: st) σ := e_aload1 k2_18 rfl
theorem k2_19 : cod 2 19 = some (.getfield 20, 3, 0, 1, 0, 3) := rfl
theorem e2_19 (t : Nat) (ls : mL) (st : List Value) (σ : mS) : ev 2 19 ls (.ref t :: st) σ = gfK (σ.1 t) 0 1 (fun v => ev 2 22 ls (v :: st) σ) := e_getf k2_19
theorem k2_22 : cod 2 22 = some (.iload_n 3, 1, 0, 0, 0, 0) := rfl
theorem e2_22 (a0 a1 a2 : Option Value) (x : Int32) (ls : mL) (st : List Value) (σ : mS) : ev 2 22 (a0 :: a1 :: a2 :: some (.int x) :: ls) st σ = ev 2 23 (a0 :: a1 :: a2 :: some (.int x) :: ls) (.int x :: st) σ := e_iload1 k2_22 rfl
theorem k2_23 : cod 2 23 = some (.iconst 1, 1, 0, 0, 0, 0) := rfl
theorem e2_23 (ls : mL) (st : List Value) (σ : mS) : ev 2 23 ls st σ = ev 2 24 ls (.int 1 :: st) σ := e_iconst 1 k2_23 (by decide)
theorem k2_24 : cod 2 24 = some (.iload_n 1, 1, 0, 0, 0, 0) := rfl
theorem e2_24 (a0 : Option Value) (x : Int32) (ls : mL) (st : List Value) (σ : mS) : ev 2 24 (a0 :: some (.int x) :: ls) st σ = ev 2 25 (a0 :: some (.int x) :: ls) (.int x :: st) σ := e_iload1 k2_24 rfl
theorem k2_25 : cod 2 25 = some (.invokevirtual 41, 3, 35, 3, 0, 3) := rfl
theorem e2_25 (t : Nat) (x0 : Int32) (x1 : Int32) (x2 : Int32) (ls : mL) (st : List Value) (σ : mS) (hm : mCat st ≤ 8) : ev 2 25 ls (.int x2 :: .int x1 :: .int x0 :: .ref t :: st) σ = isC (σ.1 t) 3 ((evM 35 [.ref t, .int x0, .int x1, .int x2] σ).bind fun z => ev 2 28 ls (z.1.toList ++ st) z.2) := e_callVK k2_25 (by decide) rfl ⟨hm, Nat.le_of_ble_eq_true rfl⟩
theorem k2_28 : cod 2 28 = some (.aload_n 0, 1, 0, 0, 0, 0) := rfl
theorem e2_28 (x : Nat) (ls : mL) (st : List Value) (σ : mS) : ev 2 28 (some (.ref x) :: ls) st σ = ev 2 29 (some (.ref x) :: ls) (.ref x :: st) σ := e_aload1 k2_28 rfl
theorem k2_29 : cod 2 29 = some (.getfield 20, 3, 0, 1, 0, 3) := rfl
theorem e2_29 (t : Nat) (ls : mL) (st : List Value) (σ : mS) : ev 2 29 ls (.ref t :: st) σ = gfK (σ.1 t) 0 1 (fun v => ev 2 32 ls (v :: st) σ) := e_getf k2_29
theorem k2_32 : cod 2 32 = some (.iload_n 3, 1, 0, 0, 0, 0) := rfl
theorem e2_32 (a0 a1 a2 : Option Value) (x : Int32) (ls : mL) (st : List Value) (σ : mS) : ev 2 32 (a0 :: a1 :: a2 :: some (.int x) :: ls) st σ = ev 2 33 (a0 :: a1 :: a2 :: some (.int x) :: ls) (.int x :: st) σ := e_iload1 k2_32 rfl
theorem k2_33 : cod 2 33 = some (.iconst 4, 1, 0, 0, 0, 0) := rfl
theorem e2_33 (ls : mL) (st : List Value) (σ : mS) : ev 2 33 ls st σ = ev 2 34 ls (.int 4 :: st) σ := e_iconst 4 k2_33 (by decide)
theorem k2_34 : cod 2 34 = some (.iload_n 2, 1, 0, 0, 0, 0) := rfl
theorem e2_34 (a0 a1 : Option Value) (x : Int32) (ls : mL) (st : List Value) (σ : mS) : ev 2 34 (a0 :: a1 :: some (.int x) :: ls) st σ = ev 2 35 (a0 :: a1 :: some (.int x) :: ls) (.int x :: st) σ := e_iload1 k2_34 rfl
theorem k2_35 : cod 2 35 = some (.invokevirtual 41, 3, 35, 3, 0, 3) := rfl
theorem e2_35 (t : Nat) (x0 : Int32) (x1 : Int32) (x2 : Int32) (ls : mL) (st : List Value) (σ : mS) (hm : mCat st ≤ 8) : ev 2 35 ls (.int x2 :: .int x1 :: .int x0 :: .ref t :: st) σ = isC (σ.1 t) 3 ((evM 35 [.ref t, .int x0, .int x1, .int x2] σ).bind fun z => ev 2 38 ls (z.1.toList ++ st) z.2) := e_callVK k2_35 (by decide) rfl ⟨hm, Nat.le_of_ble_eq_true rfl⟩
theorem k2_38 : cod 2 38 = some (.iload_n 3, 1, 0, 0, 0, 0) := rfl
theorem e2_38 (a0 a1 a2 : Option Value) (x : Int32) (ls : mL) (st : List Value) (σ : mS) : ev 2 38 (a0 :: a1 :: a2 :: some (.int x) :: ls) st σ = ev 2 39 (a0 :: a1 :: a2 :: some (.int x) :: ls) (.int x :: st) σ := e_iload1 k2_38 rfl
theorem k2_39 : cod 2 39 = some (.ireturn, 1, 0, 0, 0, 0) := rfl
theorem e2_39 (x : Int32) (ls : mL) (σ : mS) : ev 2 39 ls [.int x] σ = some (some (.int x), σ) := e_iret k2_39 rfl
theorem m2 (t : Nat) (x0 : Int32) (x1 : Int32) (σ : mS) : evM 2 [.ref t, .int x0, .int x1] σ = ev 2 0 [some (.ref t), some (.int x0), some (.int x1), none] [] σ := rfl
theorem k3_0 : cod 3 0 = some (.iload_n 1, 1, 0, 0, 0, 0) := rfl
theorem e3_0 (a0 : Option Value) (x : Int32) (ls : mL) (st : List Value) (σ : mS) : ev 3 0 (a0 :: some (.int x) :: ls) st σ = ev 3 1 (a0 :: some (.int x) :: ls) (.int x :: st) σ := e_iload1 k3_0 rfl
theorem k3_1 : cod 3 1 = some (.istore_n 3, 1, 0, 0, 0, 0) := rfl
theorem e3_1i (a0 a1 : Option Value) (y : Int32) (o : Option Value) (x : Int32) (ls : mL) (st : List Value) (σ : mS) : ev 3 1 (a0 :: a1 :: some (.int y) :: o :: ls) (.int x :: st) σ = ev 3 2 (a0 :: a1 :: some (.int y) :: some (.int x) :: ls) st σ := e_istore1 k3_1 (Nat.le_add_left 4 ls.length)
theorem e3_1n (a0 a1 : Option Value) (o : Option Value) (x : Int32) (ls : mL) (st : List Value) (σ : mS) : ev 3 1 (a0 :: a1 :: none :: o :: ls) (.int x :: st) σ = ev 3 2 (a0 :: a1 :: none :: some (.int x) :: ls) st σ := e_istore1 k3_1 (Nat.le_add_left 4 ls.length)
theorem e3_1r (a0 a1 : Option Value) (y : Nat) (o : Option Value) (x : Int32) (ls : mL) (st : List Value) (σ : mS) : ev 3 1 (a0 :: a1 :: some (.ref y) :: o :: ls) (.int x :: st) σ = ev 3 2 (a0 :: a1 :: some (.ref y) :: some (.int x) :: ls) st σ := e_istore1 k3_1 (Nat.le_add_left 4 ls.length)
theorem k3_2 : cod 3 2 = some (.iconst 0, 1, 0, 0, 0, 0) := rfl
theorem e3_2 (ls : mL) (st : List Value) (σ : mS) : ev 3 2 ls st σ = ev 3 3 ls (.int 0 :: st) σ := e_iconst 0 k3_2 (by decide)
theorem k3_3 : cod 3 3 = some (.istore 4, 2, 0, 0, 0, 0) := rfl
theorem e3_3i (a0 a1 a2 : Option Value) (y : Int32) (o : Option Value) (x : Int32) (ls : mL) (st : List Value) (σ : mS) : ev 3 3 (a0 :: a1 :: a2 :: some (.int y) :: o :: ls) (.int x :: st) σ = ev 3 5 (a0 :: a1 :: a2 :: some (.int y) :: some (.int x) :: ls) st σ := e_istore0 k3_3 (Nat.le_add_left 5 ls.length)
theorem e3_3n (a0 a1 a2 : Option Value) (o : Option Value) (x : Int32) (ls : mL) (st : List Value) (σ : mS) : ev 3 3 (a0 :: a1 :: a2 :: none :: o :: ls) (.int x :: st) σ = ev 3 5 (a0 :: a1 :: a2 :: none :: some (.int x) :: ls) st σ := e_istore0 k3_3 (Nat.le_add_left 5 ls.length)
theorem e3_3r (a0 a1 a2 : Option Value) (y : Nat) (o : Option Value) (x : Int32) (ls : mL) (st : List Value) (σ : mS) : ev 3 3 (a0 :: a1 :: a2 :: some (.ref y) :: o :: ls) (.int x :: st) σ = ev 3 5 (a0 :: a1 :: a2 :: some (.ref y) :: some (.int x) :: ls) st σ := e_istore0 k3_3 (Nat.le_add_left 5 ls.length)
theorem k3_5 : cod 3 5 = some (.iload 4, 2, 0, 0, 0, 0) := rfl
theorem e3_5 (a0 a1 a2 a3 : Option Value) (x : Int32) (ls : mL) (st : List Value) (σ : mS) : ev 3 5 (a0 :: a1 :: a2 :: a3 :: some (.int x) :: ls) st σ = ev 3 7 (a0 :: a1 :: a2 :: a3 :: some (.int x) :: ls) (.int x :: st) σ := e_iload0 k3_5 rfl
theorem k3_7 : cod 3 7 = some (.bipush (8), 2, 0, 0, 0, 0) := rfl
theorem e3_7 (ls : mL) (st : List Value) (σ : mS) : ev 3 7 ls st σ = ev 3 9 ls (.int 8 :: st) σ := e_bipush 8 k3_7 (by decide)
theorem k3_9 : cod 3 9 = some (.if_icmp .ge (37), 3, 46, 0, 0, 0) := rfl
theorem e3_9 (x y : Int32) (ls : mL) (st : List Value) (σ : mS) : ev 3 9 ls (.int y :: .int x :: st) σ = if y ≤ x then ev 3 46 ls st σ else ev 3 12 ls st σ := e_ic_ge k3_9
theorem k3_12 : cod 3 12 = some (.aload_n 0, 1, 0, 0, 0, 0) := rfl
theorem e3_12 (x : Nat) (ls : mL) (st : List Value) (σ : mS) : ev 3 12 (some (.ref x) :: ls) st σ = ev 3 13 (some (.ref x) :: ls) (.ref x :: st) σ := e_aload1 k3_12 rfl
theorem k3_13 : cod 3 13 = some (.getfield 14, 3, 0, 0, 0, 3) := rfl
theorem e3_13 (t : Nat) (ls : mL) (st : List Value) (σ : mS) : ev 3 13 ls (.ref t :: st) σ = gfK (σ.1 t) 0 0 (fun v => ev 3 16 ls (v :: st) σ) := e_getf k3_13
theorem k3_16 : cod 3 16 = some (.iload_n 3, 1, 0, 0, 0, 0) := rfl
theorem e3_16 (a0 a1 a2 : Option Value) (x : Int32) (ls : mL) (st : List Value) (σ : mS) : ev 3 16 (a0 :: a1 :: a2 :: some (.int x) :: ls) st σ = ev 3 17 (a0 :: a1 :: a2 :: some (.int x) :: ls) (.int x :: st) σ := e_iload1 k3_16 rfl
theorem k3_17 : cod 3 17 = some (.invokevirtual 48, 3, 37, 1, 0, 3) := rfl
theorem e3_17 (t : Nat) (x0 : Int32) (ls : mL) (st : List Value) (σ : mS) (hm : mCat st ≤ 8) : ev 3 17 ls (.int x0 :: .ref t :: st) σ = isC (σ.1 t) 3 ((evM 37 [.ref t, .int x0] σ).bind fun z => ev 3 20 ls (z.1.toList ++ st) z.2) := e_callVK k3_17 (by decide) rfl ⟨hm, Nat.le_of_ble_eq_true rfl⟩
theorem k3_20 : cod 3 20 = some (.ifCond .eq (26), 3, 46, 0, 0, 0) := rfl
theorem e3_20 (x : Int32) (ls : mL) (st : List Value) (σ : mS) : ev 3 20 ls (.int x :: st) σ = if x = 0 then ev 3 46 ls st σ else ev 3 23 ls st σ := e_if_eq k3_20
theorem k3_23 : cod 3 23 = some (.iload_n 3, 1, 0, 0, 0, 0) := rfl
theorem e3_23 (a0 a1 a2 : Option Value) (x : Int32) (ls : mL) (st : List Value) (σ : mS) : ev 3 23 (a0 :: a1 :: a2 :: some (.int x) :: ls) st σ = ev 3 24 (a0 :: a1 :: a2 :: some (.int x) :: ls) (.int x :: st) σ := e_iload1 k3_23 rfl
theorem k3_24 : cod 3 24 = some (.iload_n 2, 1, 0, 0, 0, 0) := rfl
theorem e3_24 (a0 a1 : Option Value) (x : Int32) (ls : mL) (st : List Value) (σ : mS) : ev 3 24 (a0 :: a1 :: some (.int x) :: ls) st σ = ev 3 25 (a0 :: a1 :: some (.int x) :: ls) (.int x :: st) σ := e_iload1 k3_24 rfl
theorem k3_25 : cod 3 25 = some (.if_icmp .ne (5), 3, 30, 0, 0, 0) := rfl
theorem e3_25 (x y : Int32) (ls : mL) (st : List Value) (σ : mS) : ev 3 25 ls (.int y :: .int x :: st) σ = if x = y then ev 3 28 ls st σ else ev 3 30 ls st σ := e_ic_ne k3_25
theorem k3_28 : cod 3 28 = some (.iconst 1, 1, 0, 0, 0, 0) := rfl
theorem e3_28 (ls : mL) (st : List Value) (σ : mS) : ev 3 28 ls st σ = ev 3 29 ls (.int 1 :: st) σ := e_iconst 1 k3_28 (by decide)
theorem k3_29 : cod 3 29 = some (.ireturn, 1, 0, 0, 0, 0) := rfl
theorem e3_29 (x : Int32) (ls : mL) (σ : mS) : ev 3 29 ls [.int x] σ = if x = 0 ∨ x = 1 then some (some (.int x), σ) else none := e_zret k3_29 rfl
theorem e3_29b0 (ls : mL) (σ : mS) : ev 3 29 ls [.int 0] σ = some (some (.int 0), σ) := (e_zret k3_29 rfl).trans (if_pos (Or.inl rfl))
theorem e3_29b1 (ls : mL) (σ : mS) : ev 3 29 ls [.int 1] σ = some (some (.int 1), σ) := (e_zret k3_29 rfl).trans (if_pos (Or.inr rfl))
theorem k3_30 : cod 3 30 = some (.aload_n 0, 1, 0, 0, 0, 0) := rfl
theorem e3_30 (x : Nat) (ls : mL) (st : List Value) (σ : mS) : ev 3 30 (some (.ref x) :: ls) st σ = ev 3 31 (some (.ref x) :: ls) (.ref x :: st) σ := e_aload1 k3_30 rfl
theorem k3_31 : cod 3 31 = some (.getfield 14, 3, 0, 0, 0, 3) := rfl
theorem e3_31 (t : Nat) (ls : mL) (st : List Value) (σ : mS) : ev 3 31 ls (.ref t :: st) σ = gfK (σ.1 t) 0 0 (fun v => ev 3 34 ls (v :: st) σ) := e_getf k3_31
theorem k3_34 : cod 3 34 = some (.iload_n 3, 1, 0, 0, 0, 0) := rfl
theorem e3_34 (a0 a1 a2 : Option Value) (x : Int32) (ls : mL) (st : List Value) (σ : mS) : ev 3 34 (a0 :: a1 :: a2 :: some (.int x) :: ls) st σ = ev 3 35 (a0 :: a1 :: a2 :: some (.int x) :: ls) (.int x :: st) σ := e_iload1 k3_34 rfl
theorem k3_35 : cod 3 35 = some (.iconst 0, 1, 0, 0, 0, 0) := rfl
theorem e3_35 (ls : mL) (st : List Value) (σ : mS) : ev 3 35 ls st σ = ev 3 36 ls (.int 0 :: st) σ := e_iconst 0 k3_35 (by decide)
theorem k3_36 : cod 3 36 = some (.invokevirtual 52, 3, 38, 2, 0, 3) := rfl
theorem e3_36 (t : Nat) (x0 : Int32) (x1 : Int32) (ls : mL) (st : List Value) (σ : mS) (hm : mCat st ≤ 8) : ev 3 36 ls (.int x1 :: .int x0 :: .ref t :: st) σ = isC (σ.1 t) 3 ((evM 38 [.ref t, .int x0, .int x1] σ).bind fun z => ev 3 39 ls (z.1.toList ++ st) z.2) := e_callVK k3_36 (by decide) rfl ⟨hm, Nat.le_of_ble_eq_true rfl⟩
theorem k3_39 : cod 3 39 = some (.istore_n 3, 1, 0, 0, 0, 0) := rfl
theorem e3_39i (a0 a1 : Option Value) (y : Int32) (o : Option Value) (x : Int32) (ls : mL) (st : List Value) (σ : mS) : ev 3 39 (a0 :: a1 :: some (.int y) :: o :: ls) (.int x :: st) σ = ev 3 40 (a0 :: a1 :: some (.int y) :: some (.int x) :: ls) st σ := e_istore1 k3_39 (Nat.le_add_left 4 ls.length)
theorem e3_39n (a0 a1 : Option Value) (o : Option Value) (x : Int32) (ls : mL) (st : List Value) (σ : mS) : ev 3 39 (a0 :: a1 :: none :: o :: ls) (.int x :: st) σ = ev 3 40 (a0 :: a1 :: none :: some (.int x) :: ls) st σ := e_istore1 k3_39 (Nat.le_add_left 4 ls.length)
theorem e3_39r (a0 a1 : Option Value) (y : Nat) (o : Option Value) (x : Int32) (ls : mL) (st : List Value) (σ : mS) : ev 3 39 (a0 :: a1 :: some (.ref y) :: o :: ls) (.int x :: st) σ = ev 3 40 (a0 :: a1 :: some (.ref y) :: some (.int x) :: ls) st σ := e_istore1 k3_39 (Nat.le_add_left 4 ls.length)
theorem k3_40 : cod 3 40 = some (.iinc 4 (1), 3, 0, 0, 0, 0) := rfl
theorem e3_40i (a0 a1 a2 : Option Value) (y : Int32) (x : Int32) (ls : mL) (st : List Value) (σ : mS) : ev 3 40 (a0 :: a1 :: a2 :: some (.int y) :: some (.int x) :: ls) st σ = ev 3 43 (a0 :: a1 :: a2 :: some (.int y) :: some (.int (x + 1)) :: ls) st σ := e_iinc 1 k3_40 (by decide) rfl
theorem e3_40n (a0 a1 a2 : Option Value) (x : Int32) (ls : mL) (st : List Value) (σ : mS) : ev 3 40 (a0 :: a1 :: a2 :: none :: some (.int x) :: ls) st σ = ev 3 43 (a0 :: a1 :: a2 :: none :: some (.int (x + 1)) :: ls) st σ := e_iinc 1 k3_40 (by decide) rfl
theorem e3_40r (a0 a1 a2 : Option Value) (y : Nat) (x : Int32) (ls : mL) (st : List Value) (σ : mS) : ev 3 40 (a0 :: a1 :: a2 :: some (.ref y) :: some (.int x) :: ls) st σ = ev 3 43 (a0 :: a1 :: a2 :: some (.ref y) :: some (.int (x + 1)) :: ls) st σ := e_iinc 1 k3_40 (by decide) rfl
theorem k3_43 : cod 3 43 = some (.goto (-38), 3, 5, 0, 0, 0) := rfl
theorem e3_43 (ls : mL) (st : List Value) (σ : mS) : ev 3 43 ls st σ = ev 3 5 ls st σ := e_goto k3_43
theorem k3_46 : cod 3 46 = some (.iconst 0, 1, 0, 0, 0, 0) := rfl
theorem e3_46 (ls : mL) (st : List Value) (σ : mS) : ev 3 46 ls st σ = ev 3 47 ls (.int 0 :: st) σ := e_iconst 0 k3_46 (by decide)
theorem k3_47 : cod 3 47 = some (.ireturn, 1, 0, 0, 0, 0) := rfl
theorem e3_47 (x : Int32) (ls : mL) (σ : mS) : ev 3 47 ls [.int x] σ = if x = 0 ∨ x = 1 then some (some (.int x), σ) else none := e_zret k3_47 rfl
theorem e3_47b0 (ls : mL) (σ : mS) : ev 3 47 ls [.int 0] σ = some (some (.int 0), σ) := (e_zret k3_47 rfl).trans (if_pos (Or.inl rfl))
theorem e3_47b1 (ls : mL) (σ : mS) : ev 3 47 ls [.int 1] σ = some (some (.int 1), σ) := (e_zret k3_47 rfl).trans (if_pos (Or.inr rfl))
theorem m3 (t : Nat) (x0 : Int32) (x1 : Int32) (σ : mS) : evM 3 [.ref t, .int x0, .int x1] σ = ev 3 0 [some (.ref t), some (.int x0), some (.int x1), none, none] [] σ := rfl
theorem k4_0 : cod 4 0 = some (.aload_n 0, 1, 0, 0, 0, 0) := rfl
theorem e4_0 (x : Nat) (ls : mL) (st : List Value) (σ : mS) : ev 4 0 (some (.ref x) :: ls) st σ = ev 4 1 (some (.ref x) :: ls) (.ref x :: st) σ := e_aload1 k4_0 rfl
theorem k4_1 : cod 4 1 = some (.getfield 23, 3, 0, 2, 0, 3) := rfl
theorem e4_1 (t : Nat) (ls : mL) (st : List Value) (σ : mS) : ev 4 1 ls (.ref t :: st) σ = gfK (σ.1 t) 0 2 (fun v => ev 4 4 ls (v :: st) σ) := e_getf k4_1
theorem k4_4 : cod 4 4 = some (.invokevirtual 37, 3, 33, 0, 0, 3) := rfl
theorem e4_4 (t : Nat) (ls : mL) (st : List Value) (σ : mS) (hm : mCat st ≤ 8) : ev 4 4 ls (.ref t :: st) σ = isC (σ.1 t) 3 ((evM 33 [.ref t] σ).bind fun z => ev 4 7 ls (z.1.toList ++ st) z.2) := e_callVK k4_4 (by decide) rfl ⟨hm, Nat.le_of_ble_eq_true rfl⟩
theorem k4_7 : cod 4 7 = some (.istore 5, 2, 0, 0, 0, 0) := rfl
theorem e4_7i (a0 a1 a2 a3 : Option Value) (y : Int32) (o : Option Value) (x : Int32) (ls : mL) (st : List Value) (σ : mS) : ev 4 7 (a0 :: a1 :: a2 :: a3 :: some (.int y) :: o :: ls) (.int x :: st) σ = ev 4 9 (a0 :: a1 :: a2 :: a3 :: some (.int y) :: some (.int x) :: ls) st σ := e_istore0 k4_7 (Nat.le_add_left 6 ls.length)
theorem e4_7n (a0 a1 a2 a3 : Option Value) (o : Option Value) (x : Int32) (ls : mL) (st : List Value) (σ : mS) : ev 4 7 (a0 :: a1 :: a2 :: a3 :: none :: o :: ls) (.int x :: st) σ = ev 4 9 (a0 :: a1 :: a2 :: a3 :: none :: some (.int x) :: ls) st σ := e_istore0 k4_7 (Nat.le_add_left 6 ls.length)
theorem e4_7r (a0 a1 a2 a3 : Option Value) (y : Nat) (o : Option Value) (x : Int32) (ls : mL) (st : List Value) (σ : mS) : ev 4 7 (a0 :: a1 :: a2 :: a3 :: some (.ref y) :: o :: ls) (.int x :: st) σ = ev 4 9 (a0 :: a1 :: a2 :: a3 :: some (.ref y) :: some (.int x) :: ls) st σ := e_istore0 k4_7 (Nat.le_add_left 6 ls.length)
theorem k4_9 : cod 4 9 = some (.aload_n 0, 1, 0, 0, 0, 0) := rfl
theorem e4_9 (x : Nat) (ls : mL) (st : List Value) (σ : mS) : ev 4 9 (some (.ref x) :: ls) st σ = ev 4 10 (some (.ref x) :: ls) (.ref x :: st) σ := e_aload1 k4_9 rfl
theorem k4_10 : cod 4 10 = some (.getfield 23, 3, 0, 2, 0, 3) := rfl
theorem e4_10 (t : Nat) (ls : mL) (st : List Value) (σ : mS) : ev 4 10 ls (.ref t :: st) σ = gfK (σ.1 t) 0 2 (fun v => ev 4 13 ls (v :: st) σ) := e_getf k4_10
theorem k4_13 : cod 4 13 = some (.iload 5, 2, 0, 0, 0, 0) := rfl
theorem e4_13 (a0 a1 a2 a3 a4 : Option Value) (x : Int32) (ls : mL) (st : List Value) (σ : mS) : ev 4 13 (a0 :: a1 :: a2 :: a3 :: a4 :: some (.int x) :: ls) st σ = ev 4 15 (a0 :: a1 :: a2 :: a3 :: a4 :: some (.int x) :: ls) (.int x :: st) σ := e_iload0 k4_13 rfl
theorem k4_15 : cod 4 15 = some (.iconst 0, 1, 0, 0, 0, 0) := rfl
theorem e4_15 (ls : mL) (st : List Value) (σ : mS) : ev 4 15 ls st σ = ev 4 16 ls (.int 0 :: st) σ := e_iconst 0 k4_15 (by decide)
theorem k4_16 : cod 4 16 = some (.iload_n 1, 1, 0, 0, 0, 0) := rfl
theorem e4_16 (a0 : Option Value) (x : Int32) (ls : mL) (st : List Value) (σ : mS) : ev 4 16 (a0 :: some (.int x) :: ls) st σ = ev 4 17 (a0 :: some (.int x) :: ls) (.int x :: st) σ := e_iload1 k4_16 rfl
theorem k4_17 : cod 4 17 = some (.invokevirtual 41, 3, 35, 3, 0, 3) := rfl
theorem e4_17 (t : Nat) (x0 : Int32) (x1 : Int32) (x2 : Int32) (ls : mL) (st : List Value) (σ : mS) (hm : mCat st ≤ 8) : ev 4 17 ls (.int x2 :: .int x1 :: .int x0 :: .ref t :: st) σ = isC (σ.1 t) 3 ((evM 35 [.ref t, .int x0, .int x1, .int x2] σ).bind fun z => ev 4 20 ls (z.1.toList ++ st) z.2) := e_callVK k4_17 (by decide) rfl ⟨hm, Nat.le_of_ble_eq_true rfl⟩
theorem k4_20 : cod 4 20 = some (.aload_n 0, 1, 0, 0, 0, 0) := rfl
theorem e4_20 (x : Nat) (ls : mL) (st : List Value) (σ : mS) : ev 4 20 (some (.ref x) :: ls) st σ = ev 4 21 (some (.ref x) :: ls) (.ref x :: st) σ := e_aload1 k4_20 rfl
theorem k4_21 : cod 4 21 = some (.getfield 23, 3, 0, 2, 0, 3) := rfl
theorem e4_21 (t : Nat) (ls : mL) (st : List Value) (σ : mS) : ev 4 21 ls (.ref t :: st) σ = gfK (σ.1 t) 0 2 (fun v => ev 4 24 ls (v :: st) σ) := e_getf k4_21
theorem k4_24 : cod 4 24 = some (.iload 5, 2, 0, 0, 0, 0) := rfl
theorem e4_24 (a0 a1 a2 a3 a4 : Option Value) (x : Int32) (ls : mL) (st : List Value) (σ : mS) : ev 4 24 (a0 :: a1 :: a2 :: a3 :: a4 :: some (.int x) :: ls) st σ = ev 4 26 (a0 :: a1 :: a2 :: a3 :: a4 :: some (.int x) :: ls) (.int x :: st) σ := e_iload0 k4_24 rfl
theorem k4_26 : cod 4 26 = some (.iconst 1, 1, 0, 0, 0, 0) := rfl
theorem e4_26 (ls : mL) (st : List Value) (σ : mS) : ev 4 26 ls st σ = ev 4 27 ls (.int 1 :: st) σ := e_iconst 1 k4_26 (by decide)
theorem k4_27 : cod 4 27 = some (.iload_n 2, 1, 0, 0, 0, 0) := rfl
theorem e4_27 (a0 a1 : Option Value) (x : Int32) (ls : mL) (st : List Value) (σ : mS) : ev 4 27 (a0 :: a1 :: some (.int x) :: ls) st σ = ev 4 28 (a0 :: a1 :: some (.int x) :: ls) (.int x :: st) σ := e_iload1 k4_27 rfl
theorem k4_28 : cod 4 28 = some (.invokevirtual 41, 3, 35, 3, 0, 3) := rfl
theorem e4_28 (t : Nat) (x0 : Int32) (x1 : Int32) (x2 : Int32) (ls : mL) (st : List Value) (σ : mS) (hm : mCat st ≤ 8) : ev 4 28 ls (.int x2 :: .int x1 :: .int x0 :: .ref t :: st) σ = isC (σ.1 t) 3 ((evM 35 [.ref t, .int x0, .int x1, .int x2] σ).bind fun z => ev 4 31 ls (z.1.toList ++ st) z.2) := e_callVK k4_28 (by decide) rfl ⟨hm, Nat.le_of_ble_eq_true rfl⟩
theorem k4_31 : cod 4 31 = some (.aload_n 0, 1, 0, 0, 0, 0) := rfl
theorem e4_31 (x : Nat) (ls : mL) (st : List Value) (σ : mS) : ev 4 31 (some (.ref x) :: ls) st σ = ev 4 32 (some (.ref x) :: ls) (.ref x :: st) σ := e_aload1 k4_31 rfl
theorem k4_32 : cod 4 32 = some (.getfield 23, 3, 0, 2, 0, 3) := rfl
theorem e4_32 (t : Nat) (ls : mL) (st : List Value) (σ : mS) : ev 4 32 ls (.ref t :: st) σ = gfK (σ.1 t) 0 2 (fun v => ev 4 35 ls (v :: st) σ) := e_getf k4_32
theorem k4_35 : cod 4 35 = some (.iload 5, 2, 0, 0, 0, 0) := rfl
theorem e4_35 (a0 a1 a2 a3 a4 : Option Value) (x : Int32) (ls : mL) (st : List Value) (σ : mS) : ev 4 35 (a0 :: a1 :: a2 :: a3 :: a4 :: some (.int x) :: ls) st σ = ev 4 37 (a0 :: a1 :: a2 :: a3 :: a4 :: some (.int x) :: ls) (.int x :: st) σ := e_iload0 k4_35 rfl
theorem k4_37 : cod 4 37 = some (.iconst 2, 1, 0, 0, 0, 0) := rfl
theorem e4_37 (ls : mL) (st : List Value) (σ : mS) : ev 4 37 ls st σ = ev 4 38 ls (.int 2 :: st) σ := e_iconst 2 k4_37 (by decide)
theorem k4_38 : cod 4 38 = some (.iload_n 3, 1, 0, 0, 0, 0) := rfl
theorem e4_38 (a0 a1 a2 : Option Value) (x : Int32) (ls : mL) (st : List Value) (σ : mS) : ev 4 38 (a0 :: a1 :: a2 :: some (.int x) :: ls) st σ = ev 4 39 (a0 :: a1 :: a2 :: some (.int x) :: ls) (.int x :: st) σ := e_iload1 k4_38 rfl
theorem k4_39 : cod 4 39 = some (.invokevirtual 41, 3, 35, 3, 0, 3) := rfl
theorem e4_39 (t : Nat) (x0 : Int32) (x1 : Int32) (x2 : Int32) (ls : mL) (st : List Value) (σ : mS) (hm : mCat st ≤ 8) : ev 4 39 ls (.int x2 :: .int x1 :: .int x0 :: .ref t :: st) σ = isC (σ.1 t) 3 ((evM 35 [.ref t, .int x0, .int x1, .int x2] σ).bind fun z => ev 4 42 ls (z.1.toList ++ st) z.2) := e_callVK k4_39 (by decide) rfl ⟨hm, Nat.le_of_ble_eq_true rfl⟩
theorem k4_42 : cod 4 42 = some (.aload_n 0, 1, 0, 0, 0, 0) := rfl
theorem e4_42 (x : Nat) (ls : mL) (st : List Value) (σ : mS) : ev 4 42 (some (.ref x) :: ls) st σ = ev 4 43 (some (.ref x) :: ls) (.ref x :: st) σ := e_aload1 k4_42 rfl
theorem k4_43 : cod 4 43 = some (.getfield 23, 3, 0, 2, 0, 3) := rfl
theorem e4_43 (t : Nat) (ls : mL) (st : List Value) (σ : mS) : ev 4 43 ls (.ref t :: st) σ = gfK (σ.1 t) 0 2 (fun v => ev 4 46 ls (v :: st) σ) := e_getf k4_43
theorem k4_46 : cod 4 46 = some (.iload 5, 2, 0, 0, 0, 0) := rfl
theorem e4_46 (a0 a1 a2 a3 a4 : Option Value) (x : Int32) (ls : mL) (st : List Value) (σ : mS) : ev 4 46 (a0 :: a1 :: a2 :: a3 :: a4 :: some (.int x) :: ls) st σ = ev 4 48 (a0 :: a1 :: a2 :: a3 :: a4 :: some (.int x) :: ls) (.int x :: st) σ := e_iload0 k4_46 rfl
theorem k4_48 : cod 4 48 = some (.iconst 3, 1, 0, 0, 0, 0) := rfl
theorem e4_48 (ls : mL) (st : List Value) (σ : mS) : ev 4 48 ls st σ = ev 4 49 ls (.int 3 :: st) σ := e_iconst 3 k4_48 (by decide)
theorem k4_49 : cod 4 49 = some (.iload 4, 2, 0, 0, 0, 0) := rfl
theorem e4_49 (a0 a1 a2 a3 : Option Value) (x : Int32) (ls : mL) (st : List Value) (σ : mS) : ev 4 49 (a0 :: a1 :: a2 :: a3 :: some (.int x) :: ls) st σ = ev 4 51 (a0 :: a1 :: a2 :: a3 :: some (.int x) :: ls) (.int x :: st) σ := e_iload0 k4_49 rfl
theorem k4_51 : cod 4 51 = some (.invokevirtual 41, 3, 35, 3, 0, 3) := rfl
theorem e4_51 (t : Nat) (x0 : Int32) (x1 : Int32) (x2 : Int32) (ls : mL) (st : List Value) (σ : mS) (hm : mCat st ≤ 8) : ev 4 51 ls (.int x2 :: .int x1 :: .int x0 :: .ref t :: st) σ = isC (σ.1 t) 3 ((evM 35 [.ref t, .int x0, .int x1, .int x2] σ).bind fun z => ev 4 54 ls (z.1.toList ++ st) z.2) := e_callVK k4_51 (by decide) rfl ⟨hm, Nat.le_of_ble_eq_true rfl⟩
theorem k4_54 : cod 4 54 = some (.iload 5, 2, 0, 0, 0, 0) := rfl
theorem e4_54 (a0 a1 a2 a3 a4 : Option Value) (x : Int32) (ls : mL) (st : List Value) (σ : mS) : ev 4 54 (a0 :: a1 :: a2 :: a3 :: a4 :: some (.int x) :: ls) st σ = ev 4 56 (a0 :: a1 :: a2 :: a3 :: a4 :: some (.int x) :: ls) (.int x :: st) σ := e_iload0 k4_54 rfl
theorem k4_56 : cod 4 56 = some (.ireturn, 1, 0, 0, 0, 0) := rfl
theorem e4_56 (x : Int32) (ls : mL) (σ : mS) : ev 4 56 ls [.int x] σ = some (some (.int x), σ) := e_iret k4_56 rfl
theorem m4 (t : Nat) (x0 : Int32) (x1 : Int32) (x2 : Int32) (x3 : Int32) (σ : mS) : evM 4 [.ref t, .int x0, .int x1, .int x2, .int x3] σ = ev 4 0 [some (.ref t), some (.int x0), some (.int x1), some (.int x2), some (.int x3), none] [] σ := rfl
theorem k5_0 : cod 5 0 = some (.iload_n 1, 1, 0, 0, 0, 0) := rfl
theorem e5_0 (a0 : Option Value) (x : Int32) (ls : mL) (st : List Value) (σ : mS) : ev 5 0 (a0 :: some (.int x) :: ls) st σ = ev 5 1 (a0 :: some (.int x) :: ls) (.int x :: st) σ := e_iload1 k5_0 rfl
theorem k5_1 : cod 5 1 = some (.istore_n 2, 1, 0, 0, 0, 0) := rfl
theorem e5_1i (a0 : Option Value) (y : Int32) (o : Option Value) (x : Int32) (ls : mL) (st : List Value) (σ : mS) : ev 5 1 (a0 :: some (.int y) :: o :: ls) (.int x :: st) σ = ev 5 2 (a0 :: some (.int y) :: some (.int x) :: ls) st σ := e_istore1 k5_1 (Nat.le_add_left 3 ls.length)
theorem e5_1n (a0 : Option Value) (o : Option Value) (x : Int32) (ls : mL) (st : List Value) (σ : mS) : ev 5 1 (a0 :: none :: o :: ls) (.int x :: st) σ = ev 5 2 (a0 :: none :: some (.int x) :: ls) st σ := e_istore1 k5_1 (Nat.le_add_left 3 ls.length)
theorem e5_1r (a0 : Option Value) (y : Nat) (o : Option Value) (x : Int32) (ls : mL) (st : List Value) (σ : mS) : ev 5 1 (a0 :: some (.ref y) :: o :: ls) (.int x :: st) σ = ev 5 2 (a0 :: some (.ref y) :: some (.int x) :: ls) st σ := e_istore1 k5_1 (Nat.le_add_left 3 ls.length)
theorem k5_2 : cod 5 2 = some (.iconst 0, 1, 0, 0, 0, 0) := rfl
theorem e5_2 (ls : mL) (st : List Value) (σ : mS) : ev 5 2 ls st σ = ev 5 3 ls (.int 0 :: st) σ := e_iconst 0 k5_2 (by decide)
theorem k5_3 : cod 5 3 = some (.istore_n 3, 1, 0, 0, 0, 0) := rfl
theorem e5_3i (a0 a1 : Option Value) (y : Int32) (o : Option Value) (x : Int32) (ls : mL) (st : List Value) (σ : mS) : ev 5 3 (a0 :: a1 :: some (.int y) :: o :: ls) (.int x :: st) σ = ev 5 4 (a0 :: a1 :: some (.int y) :: some (.int x) :: ls) st σ := e_istore1 k5_3 (Nat.le_add_left 4 ls.length)
theorem e5_3n (a0 a1 : Option Value) (o : Option Value) (x : Int32) (ls : mL) (st : List Value) (σ : mS) : ev 5 3 (a0 :: a1 :: none :: o :: ls) (.int x :: st) σ = ev 5 4 (a0 :: a1 :: none :: some (.int x) :: ls) st σ := e_istore1 k5_3 (Nat.le_add_left 4 ls.length)
theorem e5_3r (a0 a1 : Option Value) (y : Nat) (o : Option Value) (x : Int32) (ls : mL) (st : List Value) (σ : mS) : ev 5 3 (a0 :: a1 :: some (.ref y) :: o :: ls) (.int x :: st) σ = ev 5 4 (a0 :: a1 :: some (.ref y) :: some (.int x) :: ls) st σ := e_istore1 k5_3 (Nat.le_add_left 4 ls.length)
theorem k5_4 : cod 5 4 = some (.iload_n 3, 1, 0, 0, 0, 0) := rfl
theorem e5_4 (a0 a1 a2 : Option Value) (x : Int32) (ls : mL) (st : List Value) (σ : mS) : ev 5 4 (a0 :: a1 :: a2 :: some (.int x) :: ls) st σ = ev 5 5 (a0 :: a1 :: a2 :: some (.int x) :: ls) (.int x :: st) σ := e_iload1 k5_4 rfl
theorem k5_5 : cod 5 5 = some (.bipush (20), 2, 0, 0, 0, 0) := rfl
theorem e5_5 (ls : mL) (st : List Value) (σ : mS) : ev 5 5 ls st σ = ev 5 7 ls (.int 20 :: st) σ := e_bipush 20 k5_5 (by decide)
theorem k5_7 : cod 5 7 = some (.if_icmp .ge (68), 3, 75, 0, 0, 0) := rfl
theorem e5_7 (x y : Int32) (ls : mL) (st : List Value) (σ : mS) : ev 5 7 ls (.int y :: .int x :: st) σ = if y ≤ x then ev 5 75 ls st σ else ev 5 10 ls st σ := e_ic_ge k5_7
theorem k5_10 : cod 5 10 = some (.aload_n 0, 1, 0, 0, 0, 0) := rfl
theorem e5_10 (x : Nat) (ls : mL) (st : List Value) (σ : mS) : ev 5 10 (some (.ref x) :: ls) st σ = ev 5 11 (some (.ref x) :: ls) (.ref x :: st) σ := e_aload1 k5_10 rfl
theorem k5_11 : cod 5 11 = some (.getfield 23, 3, 0, 2, 0, 3) := rfl
theorem e5_11 (t : Nat) (ls : mL) (st : List Value) (σ : mS) : ev 5 11 ls (.ref t :: st) σ = gfK (σ.1 t) 0 2 (fun v => ev 5 14 ls (v :: st) σ) := e_getf k5_11
theorem k5_14 : cod 5 14 = some (.iload_n 2, 1, 0, 0, 0, 0) := rfl
theorem e5_14 (a0 a1 : Option Value) (x : Int32) (ls : mL) (st : List Value) (σ : mS) : ev 5 14 (a0 :: a1 :: some (.int x) :: ls) st σ = ev 5 15 (a0 :: a1 :: some (.int x) :: ls) (.int x :: st) σ := e_iload1 k5_14 rfl
theorem k5_15 : cod 5 15 = some (.invokevirtual 48, 3, 37, 1, 0, 3) := rfl
theorem e5_15 (t : Nat) (x0 : Int32) (ls : mL) (st : List Value) (σ : mS) (hm : mCat st ≤ 8) : ev 5 15 ls (.int x0 :: .ref t :: st) σ = isC (σ.1 t) 3 ((evM 37 [.ref t, .int x0] σ).bind fun z => ev 5 18 ls (z.1.toList ++ st) z.2) := e_callVK k5_15 (by decide) rfl ⟨hm, Nat.le_of_ble_eq_true rfl⟩
theorem k5_18 : cod 5 18 = some (.ifCond .eq (57), 3, 75, 0, 0, 0) := rfl
theorem e5_18 (x : Int32) (ls : mL) (st : List Value) (σ : mS) : ev 5 18 ls (.int x :: st) σ = if x = 0 then ev 5 75 ls st σ else ev 5 21 ls st σ := e_if_eq k5_18
theorem k5_21 : cod 5 21 = some (.aload_n 0, 1, 0, 0, 0, 0) := rfl
theorem e5_21 (x : Nat) (ls : mL) (st : List Value) (σ : mS) : ev 5 21 (some (.ref x) :: ls) st σ = ev 5 22 (some (.ref x) :: ls) (.ref x :: st) σ := e_aload1 k5_21 rfl
theorem k5_22 : cod 5 22 = some (.iload_n 2, 1, 0, 0, 0, 0) := rfl
theorem e5_22 (a0 a1 : Option Value) (x : Int32) (ls : mL) (st : List Value) (σ : mS) : ev 5 22 (a0 :: a1 :: some (.int x) :: ls) st σ = ev 5 23 (a0 :: a1 :: some (.int x) :: ls) (.int x :: st) σ := e_iload1 k5_22 rfl
theorem k5_23 : cod 5 23 = some (.invokevirtual 56, 3, 6, 1, 0, 0) := rfl
theorem e5_23 (t : Nat) (x0 : Int32) (ls : mL) (st : List Value) (σ : mS) (hm : mCat st ≤ 8) : ev 5 23 ls (.int x0 :: .ref t :: st) σ = isC (σ.1 t) 0 ((evM 6 [.ref t, .int x0] σ).bind fun z => ev 5 26 ls (z.1.toList ++ st) z.2) := e_callVK k5_23 (by decide) rfl ⟨hm, Nat.le_of_ble_eq_true rfl⟩
theorem k5_26 : cod 5 26 = some (.ifCond .ne (31), 3, 57, 0, 0, 0) := rfl
theorem e5_26 (x : Int32) (ls : mL) (st : List Value) (σ : mS) : ev 5 26 ls (.int x :: st) σ = if x = 0 then ev 5 29 ls st σ else ev 5 57 ls st σ := e_if_ne k5_26
theorem k5_29 : cod 5 29 = some (.aload_n 0, 1, 0, 0, 0, 0) := rfl
theorem e5_29 (x : Nat) (ls : mL) (st : List Value) (σ : mS) : ev 5 29 (some (.ref x) :: ls) st σ = ev 5 30 (some (.ref x) :: ls) (.ref x :: st) σ := e_aload1 k5_29 rfl
theorem k5_30 : cod 5 30 = some (.getfield 23, 3, 0, 2, 0, 3) := rfl
theorem e5_30 (t : Nat) (ls : mL) (st : List Value) (σ : mS) : ev 5 30 ls (.ref t :: st) σ = gfK (σ.1 t) 0 2 (fun v => ev 5 33 ls (v :: st) σ) := e_getf k5_30
theorem k5_33 : cod 5 33 = some (.iload_n 2, 1, 0, 0, 0, 0) := rfl
theorem e5_33 (a0 a1 : Option Value) (x : Int32) (ls : mL) (st : List Value) (σ : mS) : ev 5 33 (a0 :: a1 :: some (.int x) :: ls) st σ = ev 5 34 (a0 :: a1 :: some (.int x) :: ls) (.int x :: st) σ := e_iload1 k5_33 rfl
theorem k5_34 : cod 5 34 = some (.iconst 2, 1, 0, 0, 0, 0) := rfl
theorem e5_34 (ls : mL) (st : List Value) (σ : mS) : ev 5 34 ls st σ = ev 5 35 ls (.int 2 :: st) σ := e_iconst 2 k5_34 (by decide)
theorem k5_35 : cod 5 35 = some (.invokevirtual 52, 3, 38, 2, 0, 3) := rfl
theorem e5_35 (t : Nat) (x0 : Int32) (x1 : Int32) (ls : mL) (st : List Value) (σ : mS) (hm : mCat st ≤ 8) : ev 5 35 ls (.int x1 :: .int x0 :: .ref t :: st) σ = isC (σ.1 t) 3 ((evM 38 [.ref t, .int x0, .int x1] σ).bind fun z => ev 5 38 ls (z.1.toList ++ st) z.2) := e_callVK k5_35 (by decide) rfl ⟨hm, Nat.le_of_ble_eq_true rfl⟩
theorem k5_38 : cod 5 38 = some (.ifCond .le (19), 3, 57, 0, 0, 0) := rfl
theorem e5_38 (x : Int32) (ls : mL) (st : List Value) (σ : mS) : ev 5 38 ls (.int x :: st) σ = if x ≤ 0 then ev 5 57 ls st σ else ev 5 41 ls st σ := e_if_le k5_38
theorem k5_41 : cod 5 41 = some (.aload_n 0, 1, 0, 0, 0, 0) := rfl
theorem e5_41 (x : Nat) (ls : mL) (st : List Value) (σ : mS) : ev 5 41 (some (.ref x) :: ls) st σ = ev 5 42 (some (.ref x) :: ls) (.ref x :: st) σ := e_aload1 k5_41 rfl
theorem k5_42 : cod 5 42 = some (.getfield 33, 3, 0, 4, 0, 0) := rfl
theorem e5_42 (t : Nat) (ls : mL) (st : List Value) (σ : mS) : ev 5 42 ls (.ref t :: st) σ = gfK (σ.1 t) 0 4 (fun v => ev 5 45 ls (v :: st) σ) := e_getf k5_42
theorem k5_45 : cod 5 45 = some (.aload_n 0, 1, 0, 0, 0, 0) := rfl
theorem e5_45 (x : Nat) (ls : mL) (st : List Value) (σ : mS) : ev 5 45 (some (.ref x) :: ls) st σ = ev 5 46 (some (.ref x) :: ls) (.ref x :: st) σ := e_aload1 k5_45 rfl
theorem k5_46 : cod 5 46 = some (.getfield 23, 3, 0, 2, 0, 3) := rfl
theorem e5_46 (t : Nat) (ls : mL) (st : List Value) (σ : mS) : ev 5 46 ls (.ref t :: st) σ = gfK (σ.1 t) 0 2 (fun v => ev 5 49 ls (v :: st) σ) := e_getf k5_46
theorem k5_49 : cod 5 49 = some (.iload_n 2, 1, 0, 0, 0, 0) := rfl
theorem e5_49 (a0 a1 : Option Value) (x : Int32) (ls : mL) (st : List Value) (σ : mS) : ev 5 49 (a0 :: a1 :: some (.int x) :: ls) st σ = ev 5 50 (a0 :: a1 :: some (.int x) :: ls) (.int x :: st) σ := e_iload1 k5_49 rfl
theorem k5_50 : cod 5 50 = some (.iconst 3, 1, 0, 0, 0, 0) := rfl
theorem e5_50 (ls : mL) (st : List Value) (σ : mS) : ev 5 50 ls st σ = ev 5 51 ls (.int 3 :: st) σ := e_iconst 3 k5_50 (by decide)
theorem k5_51 : cod 5 51 = some (.invokevirtual 52, 3, 38, 2, 0, 3) := rfl
theorem e5_51 (t : Nat) (x0 : Int32) (x1 : Int32) (ls : mL) (st : List Value) (σ : mS) (hm : mCat st ≤ 8) : ev 5 51 ls (.int x1 :: .int x0 :: .ref t :: st) σ = isC (σ.1 t) 3 ((evM 38 [.ref t, .int x0, .int x1] σ).bind fun z => ev 5 54 ls (z.1.toList ++ st) z.2) := e_callVK k5_51 (by decide) rfl ⟨hm, Nat.le_of_ble_eq_true rfl⟩
theorem k5_54 : cod 5 54 = some (.if_icmp .le (5), 3, 59, 0, 0, 0) := rfl
theorem e5_54 (x y : Int32) (ls : mL) (st : List Value) (σ : mS) : ev 5 54 ls (.int y :: .int x :: st) σ = if x ≤ y then ev 5 59 ls st σ else ev 5 57 ls st σ := e_ic_le k5_54
theorem k5_57 : cod 5 57 = some (.iconst 0, 1, 0, 0, 0, 0) := rfl
theorem e5_57 (ls : mL) (st : List Value) (σ : mS) : ev 5 57 ls st σ = ev 5 58 ls (.int 0 :: st) σ := e_iconst 0 k5_57 (by decide)
theorem k5_58 : cod 5 58 = some (.ireturn, 1, 0, 0, 0, 0) := rfl
theorem e5_58 (x : Int32) (ls : mL) (σ : mS) : ev 5 58 ls [.int x] σ = if x = 0 ∨ x = 1 then some (some (.int x), σ) else none := e_zret k5_58 rfl
theorem e5_58b0 (ls : mL) (σ : mS) : ev 5 58 ls [.int 0] σ = some (some (.int 0), σ) := (e_zret k5_58 rfl).trans (if_pos (Or.inl rfl))
theorem e5_58b1 (ls : mL) (σ : mS) : ev 5 58 ls [.int 1] σ = some (some (.int 1), σ) := (e_zret k5_58 rfl).trans (if_pos (Or.inr rfl))
theorem k5_59 : cod 5 59 = some (.aload_n 0, 1, 0, 0, 0, 0) := rfl
theorem e5_59 (x : Nat) (ls : mL) (st : List Value) (σ : mS) : ev 5 59 (some (.ref x) :: ls) st σ = ev 5 60 (some (.ref x) :: ls) (.ref x :: st) σ := e_aload1 k5_59 rfl
theorem k5_60 : cod 5 60 = some (.getfield 23, 3, 0, 2, 0, 3) := rfl
theorem e5_60 (t : Nat) (ls : mL) (st : List Value) (σ : mS) : ev 5 60 ls (.ref t :: st) σ = gfK (σ.1 t) 0 2 (fun v => ev 5 63 ls (v :: st) σ) := e_getf k5_60
theorem k5_63 : cod 5 63 = some (.iload_n 2, 1, 0, 0, 0, 0) := rfl
theorem e5_63 (a0 a1 : Option Value) (x : Int32) (ls : mL) (st : List Value) (σ : mS) : ev 5 63 (a0 :: a1 :: some (.int x) :: ls) st σ = ev 5 64 (a0 :: a1 :: some (.int x) :: ls) (.int x :: st) σ := e_iload1 k5_63 rfl
theorem k5_64 : cod 5 64 = some (.iconst 4, 1, 0, 0, 0, 0) := rfl
theorem e5_64 (ls : mL) (st : List Value) (σ : mS) : ev 5 64 ls st σ = ev 5 65 ls (.int 4 :: st) σ := e_iconst 4 k5_64 (by decide)
theorem k5_65 : cod 5 65 = some (.invokevirtual 52, 3, 38, 2, 0, 3) := rfl
theorem e5_65 (t : Nat) (x0 : Int32) (x1 : Int32) (ls : mL) (st : List Value) (σ : mS) (hm : mCat st ≤ 8) : ev 5 65 ls (.int x1 :: .int x0 :: .ref t :: st) σ = isC (σ.1 t) 3 ((evM 38 [.ref t, .int x0, .int x1] σ).bind fun z => ev 5 68 ls (z.1.toList ++ st) z.2) := e_callVK k5_65 (by decide) rfl ⟨hm, Nat.le_of_ble_eq_true rfl⟩
theorem k5_68 : cod 5 68 = some (.istore_n 2, 1, 0, 0, 0, 0) := rfl
theorem e5_68i (a0 : Option Value) (y : Int32) (o : Option Value) (x : Int32) (ls : mL) (st : List Value) (σ : mS) : ev 5 68 (a0 :: some (.int y) :: o :: ls) (.int x :: st) σ = ev 5 69 (a0 :: some (.int y) :: some (.int x) :: ls) st σ := e_istore1 k5_68 (Nat.le_add_left 3 ls.length)
theorem e5_68n (a0 : Option Value) (o : Option Value) (x : Int32) (ls : mL) (st : List Value) (σ : mS) : ev 5 68 (a0 :: none :: o :: ls) (.int x :: st) σ = ev 5 69 (a0 :: none :: some (.int x) :: ls) st σ := e_istore1 k5_68 (Nat.le_add_left 3 ls.length)
theorem e5_68r (a0 : Option Value) (y : Nat) (o : Option Value) (x : Int32) (ls : mL) (st : List Value) (σ : mS) : ev 5 68 (a0 :: some (.ref y) :: o :: ls) (.int x :: st) σ = ev 5 69 (a0 :: some (.ref y) :: some (.int x) :: ls) st σ := e_istore1 k5_68 (Nat.le_add_left 3 ls.length)
theorem k5_69 : cod 5 69 = some (.iinc 3 (1), 3, 0, 0, 0, 0) := rfl
theorem e5_69i (a0 a1 : Option Value) (y : Int32) (x : Int32) (ls : mL) (st : List Value) (σ : mS) : ev 5 69 (a0 :: a1 :: some (.int y) :: some (.int x) :: ls) st σ = ev 5 72 (a0 :: a1 :: some (.int y) :: some (.int (x + 1)) :: ls) st σ := e_iinc 1 k5_69 (by decide) rfl
theorem e5_69n (a0 a1 : Option Value) (x : Int32) (ls : mL) (st : List Value) (σ : mS) : ev 5 69 (a0 :: a1 :: none :: some (.int x) :: ls) st σ = ev 5 72 (a0 :: a1 :: none :: some (.int (x + 1)) :: ls) st σ := e_iinc 1 k5_69 (by decide) rfl
theorem e5_69r (a0 a1 : Option Value) (y : Nat) (x : Int32) (ls : mL) (st : List Value) (σ : mS) : ev 5 69 (a0 :: a1 :: some (.ref y) :: some (.int x) :: ls) st σ = ev 5 72 (a0 :: a1 :: some (.ref y) :: some (.int (x + 1)) :: ls) st σ := e_iinc 1 k5_69 (by decide) rfl
theorem k5_72 : cod 5 72 = some (.goto (-68), 3, 4, 0, 0, 0) := rfl
theorem e5_72 (ls : mL) (st : List Value) (σ : mS) : ev 5 72 ls st σ = ev 5 4 ls st σ := e_goto k5_72
theorem k5_75 : cod 5 75 = some (.aload_n 0, 1, 0, 0, 0, 0) := rfl
theorem e5_75 (x : Nat) (ls : mL) (st : List Value) (σ : mS) : ev 5 75 (some (.ref x) :: ls) st σ = ev 5 76 (some (.ref x) :: ls) (.ref x :: st) σ := e_aload1 k5_75 rfl
theorem k5_76 : cod 5 76 = some (.getfield 23, 3, 0, 2, 0, 3) := rfl
theorem e5_76 (t : Nat) (ls : mL) (st : List Value) (σ : mS) : ev 5 76 ls (.ref t :: st) σ = gfK (σ.1 t) 0 2 (fun v => ev 5 79 ls (v :: st) σ) := e_getf k5_76
theorem k5_79 : cod 5 79 = some (.iload_n 1, 1, 0, 0, 0, 0) := rfl
theorem e5_79 (a0 : Option Value) (x : Int32) (ls : mL) (st : List Value) (σ : mS) : ev 5 79 (a0 :: some (.int x) :: ls) st σ = ev 5 80 (a0 :: some (.int x) :: ls) (.int x :: st) σ := e_iload1 k5_79 rfl
theorem k5_80 : cod 5 80 = some (.invokevirtual 48, 3, 37, 1, 0, 3) := rfl
theorem e5_80 (t : Nat) (x0 : Int32) (ls : mL) (st : List Value) (σ : mS) (hm : mCat st ≤ 8) : ev 5 80 ls (.int x0 :: .ref t :: st) σ = isC (σ.1 t) 3 ((evM 37 [.ref t, .int x0] σ).bind fun z => ev 5 83 ls (z.1.toList ++ st) z.2) := e_callVK k5_80 (by decide) rfl ⟨hm, Nat.le_of_ble_eq_true rfl⟩
theorem k5_83 : cod 5 83 = some (.ireturn, 1, 0, 0, 0, 0) := rfl
theorem e5_83 (x : Int32) (ls : mL) (σ : mS) : ev 5 83 ls [.int x] σ = if x = 0 ∨ x = 1 then some (some (.int x), σ) else none := e_zret k5_83 rfl
theorem e5_83b0 (ls : mL) (σ : mS) : ev 5 83 ls [.int 0] σ = some (some (.int 0), σ) := (e_zret k5_83 rfl).trans (if_pos (Or.inl rfl))
theorem e5_83b1 (ls : mL) (σ : mS) : ev 5 83 ls [.int 1] σ = some (some (.int 1), σ) := (e_zret k5_83 rfl).trans (if_pos (Or.inr rfl))
theorem m5 (t : Nat) (x0 : Int32) (σ : mS) : evM 5 [.ref t, .int x0] σ = ev 5 0 [some (.ref t), some (.int x0), none, none] [] σ := rfl
theorem k6_0 : cod 6 0 = some (.aload_n 0, 1, 0, 0, 0, 0) := rfl
theorem e6_0 (x : Nat) (ls : mL) (st : List Value) (σ : mS) : ev 6 0 (some (.ref x) :: ls) st σ = ev 6 1 (some (.ref x) :: ls) (.ref x :: st) σ := e_aload1 k6_0 rfl
theorem k6_1 : cod 6 1 = some (.getfield 23, 3, 0, 2, 0, 3) := rfl
theorem e6_1 (t : Nat) (ls : mL) (st : List Value) (σ : mS) : ev 6 1 ls (.ref t :: st) σ = gfK (σ.1 t) 0 2 (fun v => ev 6 4 ls (v :: st) σ) := e_getf k6_1
theorem k6_4 : cod 6 4 = some (.iload_n 1, 1, 0, 0, 0, 0) := rfl
theorem e6_4 (a0 : Option Value) (x : Int32) (ls : mL) (st : List Value) (σ : mS) : ev 6 4 (a0 :: some (.int x) :: ls) st σ = ev 6 5 (a0 :: some (.int x) :: ls) (.int x :: st) σ := e_iload1 k6_4 rfl
theorem k6_5 : cod 6 5 = some (.bipush (7), 2, 0, 0, 0, 0) := rfl
theorem e6_5 (ls : mL) (st : List Value) (σ : mS) : ev 6 5 ls st σ = ev 6 7 ls (.int 7 :: st) σ := e_bipush 7 k6_5 (by decide)
theorem k6_7 : cod 6 7 = some (.invokevirtual 52, 3, 38, 2, 0, 3) := rfl
theorem e6_7 (t : Nat) (x0 : Int32) (x1 : Int32) (ls : mL) (st : List Value) (σ : mS) (hm : mCat st ≤ 8) : ev 6 7 ls (.int x1 :: .int x0 :: .ref t :: st) σ = isC (σ.1 t) 3 ((evM 38 [.ref t, .int x0, .int x1] σ).bind fun z => ev 6 10 ls (z.1.toList ++ st) z.2) := e_callVK k6_7 (by decide) rfl ⟨hm, Nat.le_of_ble_eq_true rfl⟩
theorem k6_10 : cod 6 10 = some (.iconst 1, 1, 0, 0, 0, 0) := rfl
theorem e6_10 (ls : mL) (st : List Value) (σ : mS) : ev 6 10 ls st σ = ev 6 11 ls (.int 1 :: st) σ := e_iconst 1 k6_10 (by decide)
theorem k6_11 : cod 6 11 = some (.if_icmp .ne (7), 3, 18, 0, 0, 0) := rfl
theorem e6_11 (x y : Int32) (ls : mL) (st : List Value) (σ : mS) : ev 6 11 ls (.int y :: .int x :: st) σ = if x = y then ev 6 14 ls st σ else ev 6 18 ls st σ := e_ic_ne k6_11
theorem k6_14 : cod 6 14 = some (.iconst 1, 1, 0, 0, 0, 0) := rfl
theorem e6_14 (ls : mL) (st : List Value) (σ : mS) : ev 6 14 ls st σ = ev 6 15 ls (.int 1 :: st) σ := e_iconst 1 k6_14 (by decide)
theorem k6_15 : cod 6 15 = some (.goto (4), 3, 19, 0, 0, 0) := rfl
theorem e6_15 (ls : mL) (st : List Value) (σ : mS) : ev 6 15 ls st σ = ev 6 19 ls st σ := e_goto k6_15
theorem k6_18 : cod 6 18 = some (.iconst 0, 1, 0, 0, 0, 0) := rfl
theorem e6_18 (ls : mL) (st : List Value) (σ : mS) : ev 6 18 ls st σ = ev 6 19 ls (.int 0 :: st) σ := e_iconst 0 k6_18 (by decide)
theorem k6_19 : cod 6 19 = some (.ireturn, 1, 0, 0, 0, 0) := rfl
theorem e6_19 (x : Int32) (ls : mL) (σ : mS) : ev 6 19 ls [.int x] σ = if x = 0 ∨ x = 1 then some (some (.int x), σ) else none := e_zret k6_19 rfl
theorem e6_19b0 (ls : mL) (σ : mS) : ev 6 19 ls [.int 0] σ = some (some (.int 0), σ) := (e_zret k6_19 rfl).trans (if_pos (Or.inl rfl))
theorem e6_19b1 (ls : mL) (σ : mS) : ev 6 19 ls [.int 1] σ = some (some (.int 1), σ) := (e_zret k6_19 rfl).trans (if_pos (Or.inr rfl))
theorem m6 (t : Nat) (x0 : Int32) (σ : mS) : evM 6 [.ref t, .int x0] σ = ev 6 0 [some (.ref t), some (.int x0)] [] σ := rfl
theorem k7_0 : cod 7 0 = some (.iload_n 2, 1, 0, 0, 0, 0) := rfl
theorem e7_0 (a0 a1 : Option Value) (x : Int32) (ls : mL) (st : List Value) (σ : mS) : ev 7 0 (a0 :: a1 :: some (.int x) :: ls) st σ = ev 7 1 (a0 :: a1 :: some (.int x) :: ls) (.int x :: st) σ := e_iload1 k7_0 rfl
theorem k7_1 : cod 7 1 = some (.aload_n 0, 1, 0, 0, 0, 0) := rfl
theorem e7_1 (x : Nat) (ls : mL) (st : List Value) (σ : mS) : ev 7 1 (some (.ref x) :: ls) st σ = ev 7 2 (some (.ref x) :: ls) (.ref x :: st) σ := e_aload1 k7_1 rfl
theorem k7_2 : cod 7 2 = some (.getfield 23, 3, 0, 2, 0, 3) := rfl
theorem e7_2 (t : Nat) (ls : mL) (st : List Value) (σ : mS) : ev 7 2 ls (.ref t :: st) σ = gfK (σ.1 t) 0 2 (fun v => ev 7 5 ls (v :: st) σ) := e_getf k7_2
theorem k7_5 : cod 7 5 = some (.iload_n 1, 1, 0, 0, 0, 0) := rfl
theorem e7_5 (a0 : Option Value) (x : Int32) (ls : mL) (st : List Value) (σ : mS) : ev 7 5 (a0 :: some (.int x) :: ls) st σ = ev 7 6 (a0 :: some (.int x) :: ls) (.int x :: st) σ := e_iload1 k7_5 rfl
theorem k7_6 : cod 7 6 = some (.iconst 1, 1, 0, 0, 0, 0) := rfl
theorem e7_6 (ls : mL) (st : List Value) (σ : mS) : ev 7 6 ls st σ = ev 7 7 ls (.int 1 :: st) σ := e_iconst 1 k7_6 (by decide)
theorem k7_7 : cod 7 7 = some (.invokevirtual 52, 3, 38, 2, 0, 3) := rfl
theorem e7_7 (t : Nat) (x0 : Int32) (x1 : Int32) (ls : mL) (st : List Value) (σ : mS) (hm : mCat st ≤ 8) : ev 7 7 ls (.int x1 :: .int x0 :: .ref t :: st) σ = isC (σ.1 t) 3 ((evM 38 [.ref t, .int x0, .int x1] σ).bind fun z => ev 7 10 ls (z.1.toList ++ st) z.2) := e_callVK k7_7 (by decide) rfl ⟨hm, Nat.le_of_ble_eq_true rfl⟩
theorem k7_10 : cod 7 10 = some (.iconst (-1), 1, 0, 0, 0, 0) := rfl
theorem e7_10 (ls : mL) (st : List Value) (σ : mS) : ev 7 10 ls st σ = ev 7 11 ls (.int (-1) :: st) σ := e_iconst (-1) k7_10 (by decide)
theorem k7_11 : cod 7 11 = some (.ixor, 1, 0, 0, 0, 0) := rfl
theorem e7_11 (x y : Int32) (ls : mL) (st : List Value) (σ : mS) : ev 7 11 ls (.int y :: .int x :: st) σ = ev 7 12 ls (.int (x ^^^ y) :: st) σ := e_ixor k7_11
theorem k7_12 : cod 7 12 = some (.iand, 1, 0, 0, 0, 0) := rfl
theorem e7_12 (x y : Int32) (ls : mL) (st : List Value) (σ : mS) : ev 7 12 ls (.int y :: .int x :: st) σ = ev 7 13 ls (.int (x &&& y) :: st) σ := e_iand k7_12
theorem k7_13 : cod 7 13 = some (.ifCond .ne (34), 3, 47, 0, 0, 0) := rfl
theorem e7_13 (x : Int32) (ls : mL) (st : List Value) (σ : mS) : ev 7 13 ls (.int x :: st) σ = if x = 0 then ev 7 16 ls st σ else ev 7 47 ls st σ := e_if_ne k7_13
theorem k7_16 : cod 7 16 = some (.iload_n 3, 1, 0, 0, 0, 0) := rfl
theorem e7_16 (a0 a1 a2 : Option Value) (x : Int32) (ls : mL) (st : List Value) (σ : mS) : ev 7 16 (a0 :: a1 :: a2 :: some (.int x) :: ls) st σ = ev 7 17 (a0 :: a1 :: a2 :: some (.int x) :: ls) (.int x :: st) σ := e_iload1 k7_16 rfl
theorem k7_17 : cod 7 17 = some (.aload_n 0, 1, 0, 0, 0, 0) := rfl
theorem e7_17 (x : Nat) (ls : mL) (st : List Value) (σ : mS) : ev 7 17 (some (.ref x) :: ls) st σ = ev 7 18 (some (.ref x) :: ls) (.ref x :: st) σ := e_aload1 k7_17 rfl
theorem k7_18 : cod 7 18 = some (.getfield 23, 3, 0, 2, 0, 3) := rfl
theorem e7_18 (t : Nat) (ls : mL) (st : List Value) (σ : mS) : ev 7 18 ls (.ref t :: st) σ = gfK (σ.1 t) 0 2 (fun v => ev 7 21 ls (v :: st) σ) := e_getf k7_18
theorem k7_21 : cod 7 21 = some (.iload_n 1, 1, 0, 0, 0, 0) := rfl
theorem e7_21 (a0 : Option Value) (x : Int32) (ls : mL) (st : List Value) (σ : mS) : ev 7 21 (a0 :: some (.int x) :: ls) st σ = ev 7 22 (a0 :: some (.int x) :: ls) (.int x :: st) σ := e_iload1 k7_21 rfl
theorem k7_22 : cod 7 22 = some (.iconst 2, 1, 0, 0, 0, 0) := rfl
theorem e7_22 (ls : mL) (st : List Value) (σ : mS) : ev 7 22 ls st σ = ev 7 23 ls (.int 2 :: st) σ := e_iconst 2 k7_22 (by decide)
theorem k7_23 : cod 7 23 = some (.invokevirtual 52, 3, 38, 2, 0, 3) := rfl
theorem e7_23 (t : Nat) (x0 : Int32) (x1 : Int32) (ls : mL) (st : List Value) (σ : mS) (hm : mCat st ≤ 8) : ev 7 23 ls (.int x1 :: .int x0 :: .ref t :: st) σ = isC (σ.1 t) 3 ((evM 38 [.ref t, .int x0, .int x1] σ).bind fun z => ev 7 26 ls (z.1.toList ++ st) z.2) := e_callVK k7_23 (by decide) rfl ⟨hm, Nat.le_of_ble_eq_true rfl⟩
theorem k7_26 : cod 7 26 = some (.if_icmp .gt (21), 3, 47, 0, 0, 0) := rfl
theorem e7_26 (x y : Int32) (ls : mL) (st : List Value) (σ : mS) : ev 7 26 ls (.int y :: .int x :: st) σ = if y < x then ev 7 47 ls st σ else ev 7 29 ls st σ := e_ic_gt k7_26
theorem k7_29 : cod 7 29 = some (.iload 4, 2, 0, 0, 0, 0) := rfl
theorem e7_29 (a0 a1 a2 a3 : Option Value) (x : Int32) (ls : mL) (st : List Value) (σ : mS) : ev 7 29 (a0 :: a1 :: a2 :: a3 :: some (.int x) :: ls) st σ = ev 7 31 (a0 :: a1 :: a2 :: a3 :: some (.int x) :: ls) (.int x :: st) σ := e_iload0 k7_29 rfl
theorem k7_31 : cod 7 31 = some (.aload_n 0, 1, 0, 0, 0, 0) := rfl
theorem e7_31 (x : Nat) (ls : mL) (st : List Value) (σ : mS) : ev 7 31 (some (.ref x) :: ls) st σ = ev 7 32 (some (.ref x) :: ls) (.ref x :: st) σ := e_aload1 k7_31 rfl
theorem k7_32 : cod 7 32 = some (.getfield 23, 3, 0, 2, 0, 3) := rfl
theorem e7_32 (t : Nat) (ls : mL) (st : List Value) (σ : mS) : ev 7 32 ls (.ref t :: st) σ = gfK (σ.1 t) 0 2 (fun v => ev 7 35 ls (v :: st) σ) := e_getf k7_32
theorem k7_35 : cod 7 35 = some (.iload_n 1, 1, 0, 0, 0, 0) := rfl
theorem e7_35 (a0 : Option Value) (x : Int32) (ls : mL) (st : List Value) (σ : mS) : ev 7 35 (a0 :: some (.int x) :: ls) st σ = ev 7 36 (a0 :: some (.int x) :: ls) (.int x :: st) σ := e_iload1 k7_35 rfl
theorem k7_36 : cod 7 36 = some (.iconst 3, 1, 0, 0, 0, 0) := rfl
theorem e7_36 (ls : mL) (st : List Value) (σ : mS) : ev 7 36 ls st σ = ev 7 37 ls (.int 3 :: st) σ := e_iconst 3 k7_36 (by decide)
theorem k7_37 : cod 7 37 = some (.invokevirtual 52, 3, 38, 2, 0, 3) := rfl
theorem e7_37 (t : Nat) (x0 : Int32) (x1 : Int32) (ls : mL) (st : List Value) (σ : mS) (hm : mCat st ≤ 8) : ev 7 37 ls (.int x1 :: .int x0 :: .ref t :: st) σ = isC (σ.1 t) 3 ((evM 38 [.ref t, .int x0, .int x1] σ).bind fun z => ev 7 40 ls (z.1.toList ++ st) z.2) := e_callVK k7_37 (by decide) rfl ⟨hm, Nat.le_of_ble_eq_true rfl⟩
theorem k7_40 : cod 7 40 = some (.if_icmp .gt (7), 3, 47, 0, 0, 0) := rfl
theorem e7_40 (x y : Int32) (ls : mL) (st : List Value) (σ : mS) : ev 7 40 ls (.int y :: .int x :: st) σ = if y < x then ev 7 47 ls st σ else ev 7 43 ls st σ := e_ic_gt k7_40
theorem k7_43 : cod 7 43 = some (.iconst 1, 1, 0, 0, 0, 0) := rfl
theorem e7_43 (ls : mL) (st : List Value) (σ : mS) : ev 7 43 ls st σ = ev 7 44 ls (.int 1 :: st) σ := e_iconst 1 k7_43 (by decide)
theorem k7_44 : cod 7 44 = some (.goto (4), 3, 48, 0, 0, 0) := rfl
theorem e7_44 (ls : mL) (st : List Value) (σ : mS) : ev 7 44 ls st σ = ev 7 48 ls st σ := e_goto k7_44
theorem k7_47 : cod 7 47 = some (.iconst 0, 1, 0, 0, 0, 0) := rfl
theorem e7_47 (ls : mL) (st : List Value) (σ : mS) : ev 7 47 ls st σ = ev 7 48 ls (.int 0 :: st) σ := e_iconst 0 k7_47 (by decide)
theorem k7_48 : cod 7 48 = some (.ireturn, 1, 0, 0, 0, 0) := rfl
theorem e7_48 (x : Int32) (ls : mL) (σ : mS) : ev 7 48 ls [.int x] σ = if x = 0 ∨ x = 1 then some (some (.int x), σ) else none := e_zret k7_48 rfl
theorem e7_48b0 (ls : mL) (σ : mS) : ev 7 48 ls [.int 0] σ = some (some (.int 0), σ) := (e_zret k7_48 rfl).trans (if_pos (Or.inl rfl))
theorem e7_48b1 (ls : mL) (σ : mS) : ev 7 48 ls [.int 1] σ = some (some (.int 1), σ) := (e_zret k7_48 rfl).trans (if_pos (Or.inr rfl))
theorem m7 (t : Nat) (x0 : Int32) (x1 : Int32) (x2 : Int32) (x3 : Int32) (σ : mS) : evM 7 [.ref t, .int x0, .int x1, .int x2, .int x3] σ = ev 7 0 [some (.ref t), some (.int x0), some (.int x1), some (.int x2), some (.int x3)] [] σ := rfl
theorem k8_0 : cod 8 0 = some (.iconst 0, 1, 0, 0, 0, 0) := rfl
theorem e8_0 (ls : mL) (st : List Value) (σ : mS) : ev 8 0 ls st σ = ev 8 1 ls (.int 0 :: st) σ := e_iconst 0 k8_0 (by decide)
theorem k8_1 : cod 8 1 = some (.istore_n 2, 1, 0, 0, 0, 0) := rfl
theorem e8_1i (a0 : Option Value) (y : Int32) (o : Option Value) (x : Int32) (ls : mL) (st : List Value) (σ : mS) : ev 8 1 (a0 :: some (.int y) :: o :: ls) (.int x :: st) σ = ev 8 2 (a0 :: some (.int y) :: some (.int x) :: ls) st σ := e_istore1 k8_1 (Nat.le_add_left 3 ls.length)
theorem e8_1n (a0 : Option Value) (o : Option Value) (x : Int32) (ls : mL) (st : List Value) (σ : mS) : ev 8 1 (a0 :: none :: o :: ls) (.int x :: st) σ = ev 8 2 (a0 :: none :: some (.int x) :: ls) st σ := e_istore1 k8_1 (Nat.le_add_left 3 ls.length)
theorem e8_1r (a0 : Option Value) (y : Nat) (o : Option Value) (x : Int32) (ls : mL) (st : List Value) (σ : mS) : ev 8 1 (a0 :: some (.ref y) :: o :: ls) (.int x :: st) σ = ev 8 2 (a0 :: some (.ref y) :: some (.int x) :: ls) st σ := e_istore1 k8_1 (Nat.le_add_left 3 ls.length)
theorem k8_2 : cod 8 2 = some (.iconst 0, 1, 0, 0, 0, 0) := rfl
theorem e8_2 (ls : mL) (st : List Value) (σ : mS) : ev 8 2 ls st σ = ev 8 3 ls (.int 0 :: st) σ := e_iconst 0 k8_2 (by decide)
theorem k8_3 : cod 8 3 = some (.istore_n 3, 1, 0, 0, 0, 0) := rfl
theorem e8_3i (a0 a1 : Option Value) (y : Int32) (o : Option Value) (x : Int32) (ls : mL) (st : List Value) (σ : mS) : ev 8 3 (a0 :: a1 :: some (.int y) :: o :: ls) (.int x :: st) σ = ev 8 4 (a0 :: a1 :: some (.int y) :: some (.int x) :: ls) st σ := e_istore1 k8_3 (Nat.le_add_left 4 ls.length)
theorem e8_3n (a0 a1 : Option Value) (o : Option Value) (x : Int32) (ls : mL) (st : List Value) (σ : mS) : ev 8 3 (a0 :: a1 :: none :: o :: ls) (.int x :: st) σ = ev 8 4 (a0 :: a1 :: none :: some (.int x) :: ls) st σ := e_istore1 k8_3 (Nat.le_add_left 4 ls.length)
theorem e8_3r (a0 a1 : Option Value) (y : Nat) (o : Option Value) (x : Int32) (ls : mL) (st : List Value) (σ : mS) : ev 8 3 (a0 :: a1 :: some (.ref y) :: o :: ls) (.int x :: st) σ = ev 8 4 (a0 :: a1 :: some (.ref y) :: some (.int x) :: ls) st σ := e_istore1 k8_3 (Nat.le_add_left 4 ls.length)
theorem k8_4 : cod 8 4 = some (.iload_n 3, 1, 0, 0, 0, 0) := rfl
theorem e8_4 (a0 a1 a2 : Option Value) (x : Int32) (ls : mL) (st : List Value) (σ : mS) : ev 8 4 (a0 :: a1 :: a2 :: some (.int x) :: ls) st σ = ev 8 5 (a0 :: a1 :: a2 :: some (.int x) :: ls) (.int x :: st) σ := e_iload1 k8_4 rfl
theorem k8_5 : cod 8 5 = some (.bipush (20), 2, 0, 0, 0, 0) := rfl
theorem e8_5 (ls : mL) (st : List Value) (σ : mS) : ev 8 5 ls st σ = ev 8 7 ls (.int 20 :: st) σ := e_bipush 20 k8_5 (by decide)
theorem k8_7 : cod 8 7 = some (.if_icmp .ge (63), 3, 70, 0, 0, 0) := rfl
theorem e8_7 (x y : Int32) (ls : mL) (st : List Value) (σ : mS) : ev 8 7 ls (.int y :: .int x :: st) σ = if y ≤ x then ev 8 70 ls st σ else ev 8 10 ls st σ := e_ic_ge k8_7
theorem k8_10 : cod 8 10 = some (.iload_n 3, 1, 0, 0, 0, 0) := rfl
theorem e8_10 (a0 a1 a2 : Option Value) (x : Int32) (ls : mL) (st : List Value) (σ : mS) : ev 8 10 (a0 :: a1 :: a2 :: some (.int x) :: ls) st σ = ev 8 11 (a0 :: a1 :: a2 :: some (.int x) :: ls) (.int x :: st) σ := e_iload1 k8_10 rfl
theorem k8_11 : cod 8 11 = some (.aload_n 0, 1, 0, 0, 0, 0) := rfl
theorem e8_11 (x : Nat) (ls : mL) (st : List Value) (σ : mS) : ev 8 11 (some (.ref x) :: ls) st σ = ev 8 12 (some (.ref x) :: ls) (.ref x :: st) σ := e_aload1 k8_11 rfl
theorem k8_12 : cod 8 12 = some (.getfield 23, 3, 0, 2, 0, 3) := rfl
theorem e8_12 (t : Nat) (ls : mL) (st : List Value) (σ : mS) : ev 8 12 ls (.ref t :: st) σ = gfK (σ.1 t) 0 2 (fun v => ev 8 15 ls (v :: st) σ) := e_getf k8_12
theorem k8_15 : cod 8 15 = some (.getfield 66, 3, 3, 3, 1, 0) := rfl
theorem e8_15 (t : Nat) (ls : mL) (st : List Value) (σ : mS) : ev 8 15 ls (.ref t :: st) σ = gfK (σ.1 t) 3 3 (fun v => ev 8 18 ls (v :: st) σ) := e_getf k8_15
theorem k8_18 : cod 8 18 = some (.if_icmp .ge (52), 3, 70, 0, 0, 0) := rfl
theorem e8_18 (x y : Int32) (ls : mL) (st : List Value) (σ : mS) : ev 8 18 ls (.int y :: .int x :: st) σ = if y ≤ x then ev 8 70 ls st σ else ev 8 21 ls st σ := e_ic_ge k8_18
theorem k8_21 : cod 8 21 = some (.aload_n 0, 1, 0, 0, 0, 0) := rfl
theorem e8_21 (x : Nat) (ls : mL) (st : List Value) (σ : mS) : ev 8 21 (some (.ref x) :: ls) st σ = ev 8 22 (some (.ref x) :: ls) (.ref x :: st) σ := e_aload1 k8_21 rfl
theorem k8_22 : cod 8 22 = some (.iload_n 3, 1, 0, 0, 0, 0) := rfl
theorem e8_22 (a0 a1 a2 : Option Value) (x : Int32) (ls : mL) (st : List Value) (σ : mS) : ev 8 22 (a0 :: a1 :: a2 :: some (.int x) :: ls) st σ = ev 8 23 (a0 :: a1 :: a2 :: some (.int x) :: ls) (.int x :: st) σ := e_iload1 k8_22 rfl
theorem k8_23 : cod 8 23 = some (.invokevirtual 56, 3, 6, 1, 0, 0) := rfl
theorem e8_23 (t : Nat) (x0 : Int32) (ls : mL) (st : List Value) (σ : mS) (hm : mCat st ≤ 8) : ev 8 23 ls (.int x0 :: .ref t :: st) σ = isC (σ.1 t) 0 ((evM 6 [.ref t, .int x0] σ).bind fun z => ev 8 26 ls (z.1.toList ++ st) z.2) := e_callVK k8_23 (by decide) rfl ⟨hm, Nat.le_of_ble_eq_true rfl⟩
theorem k8_26 : cod 8 26 = some (.ifCond .ne (38), 3, 64, 0, 0, 0) := rfl
theorem e8_26 (x : Int32) (ls : mL) (st : List Value) (σ : mS) : ev 8 26 ls (.int x :: st) σ = if x = 0 then ev 8 29 ls st σ else ev 8 64 ls st σ := e_if_ne k8_26
theorem k8_29 : cod 8 29 = some (.iload_n 3, 1, 0, 0, 0, 0) := rfl
theorem e8_29 (a0 a1 a2 : Option Value) (x : Int32) (ls : mL) (st : List Value) (σ : mS) : ev 8 29 (a0 :: a1 :: a2 :: some (.int x) :: ls) st σ = ev 8 30 (a0 :: a1 :: a2 :: some (.int x) :: ls) (.int x :: st) σ := e_iload1 k8_29 rfl
theorem k8_30 : cod 8 30 = some (.iload_n 1, 1, 0, 0, 0, 0) := rfl
theorem e8_30 (a0 : Option Value) (x : Int32) (ls : mL) (st : List Value) (σ : mS) : ev 8 30 (a0 :: some (.int x) :: ls) st σ = ev 8 31 (a0 :: some (.int x) :: ls) (.int x :: st) σ := e_iload1 k8_30 rfl
theorem k8_31 : cod 8 31 = some (.if_icmp .eq (19), 3, 50, 0, 0, 0) := rfl
theorem e8_31 (x y : Int32) (ls : mL) (st : List Value) (σ : mS) : ev 8 31 ls (.int y :: .int x :: st) σ = if x = y then ev 8 50 ls st σ else ev 8 34 ls st σ := e_ic_eq k8_31
theorem k8_34 : cod 8 34 = some (.aload_n 0, 1, 0, 0, 0, 0) := rfl
theorem e8_34 (x : Nat) (ls : mL) (st : List Value) (σ : mS) : ev 8 34 (some (.ref x) :: ls) st σ = ev 8 35 (some (.ref x) :: ls) (.ref x :: st) σ := e_aload1 k8_34 rfl
theorem k8_35 : cod 8 35 = some (.aload_n 0, 1, 0, 0, 0, 0) := rfl
theorem e8_35 (x : Nat) (ls : mL) (st : List Value) (σ : mS) : ev 8 35 (some (.ref x) :: ls) st σ = ev 8 36 (some (.ref x) :: ls) (.ref x :: st) σ := e_aload1 k8_35 rfl
theorem k8_36 : cod 8 36 = some (.getfield 23, 3, 0, 2, 0, 3) := rfl
theorem e8_36 (t : Nat) (ls : mL) (st : List Value) (σ : mS) : ev 8 36 ls (.ref t :: st) σ = gfK (σ.1 t) 0 2 (fun v => ev 8 39 ls (v :: st) σ) := e_getf k8_36
theorem k8_39 : cod 8 39 = some (.iload_n 3, 1, 0, 0, 0, 0) := rfl
theorem e8_39 (a0 a1 a2 : Option Value) (x : Int32) (ls : mL) (st : List Value) (σ : mS) : ev 8 39 (a0 :: a1 :: a2 :: some (.int x) :: ls) st σ = ev 8 40 (a0 :: a1 :: a2 :: some (.int x) :: ls) (.int x :: st) σ := e_iload1 k8_39 rfl
theorem k8_40 : cod 8 40 = some (.iconst 4, 1, 0, 0, 0, 0) := rfl
theorem e8_40 (ls : mL) (st : List Value) (σ : mS) : ev 8 40 ls st σ = ev 8 41 ls (.int 4 :: st) σ := e_iconst 4 k8_40 (by decide)
theorem k8_41 : cod 8 41 = some (.invokevirtual 52, 3, 38, 2, 0, 3) := rfl
theorem e8_41 (t : Nat) (x0 : Int32) (x1 : Int32) (ls : mL) (st : List Value) (σ : mS) (hm : mCat st ≤ 8) : ev 8 41 ls (.int x1 :: .int x0 :: .ref t :: st) σ = isC (σ.1 t) 3 ((evM 38 [.ref t, .int x0, .int x1] σ).bind fun z => ev 8 44 ls (z.1.toList ++ st) z.2) := e_callVK k8_41 (by decide) rfl ⟨hm, Nat.le_of_ble_eq_true rfl⟩
theorem k8_44 : cod 8 44 = some (.invokevirtual 56, 3, 6, 1, 0, 0) := rfl
theorem e8_44 (t : Nat) (x0 : Int32) (ls : mL) (st : List Value) (σ : mS) (hm : mCat st ≤ 8) : ev 8 44 ls (.int x0 :: .ref t :: st) σ = isC (σ.1 t) 0 ((evM 6 [.ref t, .int x0] σ).bind fun z => ev 8 47 ls (z.1.toList ++ st) z.2) := e_callVK k8_44 (by decide) rfl ⟨hm, Nat.le_of_ble_eq_true rfl⟩
theorem k8_47 : cod 8 47 = some (.ifCond .eq (17), 3, 64, 0, 0, 0) := rfl
theorem e8_47 (x : Int32) (ls : mL) (st : List Value) (σ : mS) : ev 8 47 ls (.int x :: st) σ = if x = 0 then ev 8 64 ls st σ else ev 8 50 ls st σ := e_if_eq k8_47
theorem k8_50 : cod 8 50 = some (.aload_n 0, 1, 0, 0, 0, 0) := rfl
theorem e8_50 (x : Nat) (ls : mL) (st : List Value) (σ : mS) : ev 8 50 (some (.ref x) :: ls) st σ = ev 8 51 (some (.ref x) :: ls) (.ref x :: st) σ := e_aload1 k8_50 rfl
theorem k8_51 : cod 8 51 = some (.getfield 23, 3, 0, 2, 0, 3) := rfl
theorem e8_51 (t : Nat) (ls : mL) (st : List Value) (σ : mS) : ev 8 51 ls (.ref t :: st) σ = gfK (σ.1 t) 0 2 (fun v => ev 8 54 ls (v :: st) σ) := e_getf k8_51
theorem k8_54 : cod 8 54 = some (.iload_n 3, 1, 0, 0, 0, 0) := rfl
theorem e8_54 (a0 a1 a2 : Option Value) (x : Int32) (ls : mL) (st : List Value) (σ : mS) : ev 8 54 (a0 :: a1 :: a2 :: some (.int x) :: ls) st σ = ev 8 55 (a0 :: a1 :: a2 :: some (.int x) :: ls) (.int x :: st) σ := e_iload1 k8_54 rfl
theorem k8_55 : cod 8 55 = some (.bipush (7), 2, 0, 0, 0, 0) := rfl
theorem e8_55 (ls : mL) (st : List Value) (σ : mS) : ev 8 55 ls st σ = ev 8 57 ls (.int 7 :: st) σ := e_bipush 7 k8_55 (by decide)
theorem k8_57 : cod 8 57 = some (.iconst 1, 1, 0, 0, 0, 0) := rfl
theorem e8_57 (ls : mL) (st : List Value) (σ : mS) : ev 8 57 ls st σ = ev 8 58 ls (.int 1 :: st) σ := e_iconst 1 k8_57 (by decide)
theorem k8_58 : cod 8 58 = some (.invokevirtual 41, 3, 35, 3, 0, 3) := rfl
theorem e8_58 (t : Nat) (x0 : Int32) (x1 : Int32) (x2 : Int32) (ls : mL) (st : List Value) (σ : mS) (hm : mCat st ≤ 8) : ev 8 58 ls (.int x2 :: .int x1 :: .int x0 :: .ref t :: st) σ = isC (σ.1 t) 3 ((evM 35 [.ref t, .int x0, .int x1, .int x2] σ).bind fun z => ev 8 61 ls (z.1.toList ++ st) z.2) := e_callVK k8_58 (by decide) rfl ⟨hm, Nat.le_of_ble_eq_true rfl⟩
theorem k8_61 : cod 8 61 = some (.iinc 2 (1), 3, 0, 0, 0, 0) := rfl
theorem e8_61i (a0 : Option Value) (y : Int32) (x : Int32) (ls : mL) (st : List Value) (σ : mS) : ev 8 61 (a0 :: some (.int y) :: some (.int x) :: ls) st σ = ev 8 64 (a0 :: some (.int y) :: some (.int (x + 1)) :: ls) st σ := e_iinc 1 k8_61 (by decide) rfl
theorem e8_61n (a0 : Option Value) (x : Int32) (ls : mL) (st : List Value) (σ : mS) : ev 8 61 (a0 :: none :: some (.int x) :: ls) st σ = ev 8 64 (a0 :: none :: some (.int (x + 1)) :: ls) st σ := e_iinc 1 k8_61 (by decide) rfl
theorem e8_61r (a0 : Option Value) (y : Nat) (x : Int32) (ls : mL) (st : List Value) (σ : mS) : ev 8 61 (a0 :: some (.ref y) :: some (.int x) :: ls) st σ = ev 8 64 (a0 :: some (.ref y) :: some (.int (x + 1)) :: ls) st σ := e_iinc 1 k8_61 (by decide) rfl
theorem k8_64 : cod 8 64 = some (.iinc 3 (1), 3, 0, 0, 0, 0) := rfl
theorem e8_64i (a0 a1 : Option Value) (y : Int32) (x : Int32) (ls : mL) (st : List Value) (σ : mS) : ev 8 64 (a0 :: a1 :: some (.int y) :: some (.int x) :: ls) st σ = ev 8 67 (a0 :: a1 :: some (.int y) :: some (.int (x + 1)) :: ls) st σ := e_iinc 1 k8_64 (by decide) rfl
theorem e8_64n (a0 a1 : Option Value) (x : Int32) (ls : mL) (st : List Value) (σ : mS) : ev 8 64 (a0 :: a1 :: none :: some (.int x) :: ls) st σ = ev 8 67 (a0 :: a1 :: none :: some (.int (x + 1)) :: ls) st σ := e_iinc 1 k8_64 (by decide) rfl
theorem e8_64r (a0 a1 : Option Value) (y : Nat) (x : Int32) (ls : mL) (st : List Value) (σ : mS) : ev 8 64 (a0 :: a1 :: some (.ref y) :: some (.int x) :: ls) st σ = ev 8 67 (a0 :: a1 :: some (.ref y) :: some (.int (x + 1)) :: ls) st σ := e_iinc 1 k8_64 (by decide) rfl
theorem k8_67 : cod 8 67 = some (.goto (-63), 3, 4, 0, 0, 0) := rfl
theorem e8_67 (ls : mL) (st : List Value) (σ : mS) : ev 8 67 ls st σ = ev 8 4 ls st σ := e_goto k8_67
theorem k8_70 : cod 8 70 = some (.iload_n 2, 1, 0, 0, 0, 0) := rfl
theorem e8_70 (a0 a1 : Option Value) (x : Int32) (ls : mL) (st : List Value) (σ : mS) : ev 8 70 (a0 :: a1 :: some (.int x) :: ls) st σ = ev 8 71 (a0 :: a1 :: some (.int x) :: ls) (.int x :: st) σ := e_iload1 k8_70 rfl
theorem k8_71 : cod 8 71 = some (.ireturn, 1, 0, 0, 0, 0) := rfl
theorem e8_71 (x : Int32) (ls : mL) (σ : mS) : ev 8 71 ls [.int x] σ = some (some (.int x), σ) := e_iret k8_71 rfl
theorem m8 (t : Nat) (x0 : Int32) (σ : mS) : evM 8 [.ref t, .int x0] σ = ev 8 0 [some (.ref t), some (.int x0), none, none] [] σ := rfl
theorem k9_0 : cod 9 0 = some (.iconst 0, 1, 0, 0, 0, 0) := rfl
theorem e9_0 (ls : mL) (st : List Value) (σ : mS) : ev 9 0 ls st σ = ev 9 1 ls (.int 0 :: st) σ := e_iconst 0 k9_0 (by decide)
theorem k9_1 : cod 9 1 = some (.istore_n 3, 1, 0, 0, 0, 0) := rfl
theorem e9_1i (a0 a1 : Option Value) (y : Int32) (o : Option Value) (x : Int32) (ls : mL) (st : List Value) (σ : mS) : ev 9 1 (a0 :: a1 :: some (.int y) :: o :: ls) (.int x :: st) σ = ev 9 2 (a0 :: a1 :: some (.int y) :: some (.int x) :: ls) st σ := e_istore1 k9_1 (Nat.le_add_left 4 ls.length)
theorem e9_1n (a0 a1 : Option Value) (o : Option Value) (x : Int32) (ls : mL) (st : List Value) (σ : mS) : ev 9 1 (a0 :: a1 :: none :: o :: ls) (.int x :: st) σ = ev 9 2 (a0 :: a1 :: none :: some (.int x) :: ls) st σ := e_istore1 k9_1 (Nat.le_add_left 4 ls.length)
theorem e9_1r (a0 a1 : Option Value) (y : Nat) (o : Option Value) (x : Int32) (ls : mL) (st : List Value) (σ : mS) : ev 9 1 (a0 :: a1 :: some (.ref y) :: o :: ls) (.int x :: st) σ = ev 9 2 (a0 :: a1 :: some (.ref y) :: some (.int x) :: ls) st σ := e_istore1 k9_1 (Nat.le_add_left 4 ls.length)
theorem k9_2 : cod 9 2 = some (.iload_n 3, 1, 0, 0, 0, 0) := rfl
theorem e9_2 (a0 a1 a2 : Option Value) (x : Int32) (ls : mL) (st : List Value) (σ : mS) : ev 9 2 (a0 :: a1 :: a2 :: some (.int x) :: ls) st σ = ev 9 3 (a0 :: a1 :: a2 :: some (.int x) :: ls) (.int x :: st) σ := e_iload1 k9_2 rfl
theorem k9_3 : cod 9 3 = some (.bipush (20), 2, 0, 0, 0, 0) := rfl
theorem e9_3 (ls : mL) (st : List Value) (σ : mS) : ev 9 3 ls st σ = ev 9 5 ls (.int 20 :: st) σ := e_bipush 20 k9_3 (by decide)
theorem k9_5 : cod 9 5 = some (.if_icmp .ge (48), 3, 53, 0, 0, 0) := rfl
theorem e9_5 (x y : Int32) (ls : mL) (st : List Value) (σ : mS) : ev 9 5 ls (.int y :: .int x :: st) σ = if y ≤ x then ev 9 53 ls st σ else ev 9 8 ls st σ := e_ic_ge k9_5
theorem k9_8 : cod 9 8 = some (.aload_n 0, 1, 0, 0, 0, 0) := rfl
theorem e9_8 (x : Nat) (ls : mL) (st : List Value) (σ : mS) : ev 9 8 (some (.ref x) :: ls) st σ = ev 9 9 (some (.ref x) :: ls) (.ref x :: st) σ := e_aload1 k9_8 rfl
theorem k9_9 : cod 9 9 = some (.getfield 23, 3, 0, 2, 0, 3) := rfl
theorem e9_9 (t : Nat) (ls : mL) (st : List Value) (σ : mS) : ev 9 9 ls (.ref t :: st) σ = gfK (σ.1 t) 0 2 (fun v => ev 9 12 ls (v :: st) σ) := e_getf k9_9
theorem k9_12 : cod 9 12 = some (.iload_n 3, 1, 0, 0, 0, 0) := rfl
theorem e9_12 (a0 a1 a2 : Option Value) (x : Int32) (ls : mL) (st : List Value) (σ : mS) : ev 9 12 (a0 :: a1 :: a2 :: some (.int x) :: ls) st σ = ev 9 13 (a0 :: a1 :: a2 :: some (.int x) :: ls) (.int x :: st) σ := e_iload1 k9_12 rfl
theorem k9_13 : cod 9 13 = some (.iconst 0, 1, 0, 0, 0, 0) := rfl
theorem e9_13 (ls : mL) (st : List Value) (σ : mS) : ev 9 13 ls st σ = ev 9 14 ls (.int 0 :: st) σ := e_iconst 0 k9_13 (by decide)
theorem k9_14 : cod 9 14 = some (.invokevirtual 52, 3, 38, 2, 0, 3) := rfl
theorem e9_14 (t : Nat) (x0 : Int32) (x1 : Int32) (ls : mL) (st : List Value) (σ : mS) (hm : mCat st ≤ 8) : ev 9 14 ls (.int x1 :: .int x0 :: .ref t :: st) σ = isC (σ.1 t) 3 ((evM 38 [.ref t, .int x0, .int x1] σ).bind fun z => ev 9 17 ls (z.1.toList ++ st) z.2) := e_callVK k9_14 (by decide) rfl ⟨hm, Nat.le_of_ble_eq_true rfl⟩
theorem k9_17 : cod 9 17 = some (.iload_n 1, 1, 0, 0, 0, 0) := rfl
theorem e9_17 (a0 : Option Value) (x : Int32) (ls : mL) (st : List Value) (σ : mS) : ev 9 17 (a0 :: some (.int x) :: ls) st σ = ev 9 18 (a0 :: some (.int x) :: ls) (.int x :: st) σ := e_iload1 k9_17 rfl
theorem k9_18 : cod 9 18 = some (.if_icmp .ne (29), 3, 47, 0, 0, 0) := rfl
theorem e9_18 (x y : Int32) (ls : mL) (st : List Value) (σ : mS) : ev 9 18 ls (.int y :: .int x :: st) σ = if x = y then ev 9 21 ls st σ else ev 9 47 ls st σ := e_ic_ne k9_18
theorem k9_21 : cod 9 21 = some (.aload_n 0, 1, 0, 0, 0, 0) := rfl
theorem e9_21 (x : Nat) (ls : mL) (st : List Value) (σ : mS) : ev 9 21 (some (.ref x) :: ls) st σ = ev 9 22 (some (.ref x) :: ls) (.ref x :: st) σ := e_aload1 k9_21 rfl
theorem k9_22 : cod 9 22 = some (.getfield 23, 3, 0, 2, 0, 3) := rfl
theorem e9_22 (t : Nat) (ls : mL) (st : List Value) (σ : mS) : ev 9 22 ls (.ref t :: st) σ = gfK (σ.1 t) 0 2 (fun v => ev 9 25 ls (v :: st) σ) := e_getf k9_22
theorem k9_25 : cod 9 25 = some (.iload_n 3, 1, 0, 0, 0, 0) := rfl
theorem e9_25 (a0 a1 a2 : Option Value) (x : Int32) (ls : mL) (st : List Value) (σ : mS) : ev 9 25 (a0 :: a1 :: a2 :: some (.int x) :: ls) st σ = ev 9 26 (a0 :: a1 :: a2 :: some (.int x) :: ls) (.int x :: st) σ := e_iload1 k9_25 rfl
theorem k9_26 : cod 9 26 = some (.iconst 1, 1, 0, 0, 0, 0) := rfl
theorem e9_26 (ls : mL) (st : List Value) (σ : mS) : ev 9 26 ls st σ = ev 9 27 ls (.int 1 :: st) σ := e_iconst 1 k9_26 (by decide)
theorem k9_27 : cod 9 27 = some (.invokevirtual 52, 3, 38, 2, 0, 3) := rfl
theorem e9_27 (t : Nat) (x0 : Int32) (x1 : Int32) (ls : mL) (st : List Value) (σ : mS) (hm : mCat st ≤ 8) : ev 9 27 ls (.int x1 :: .int x0 :: .ref t :: st) σ = isC (σ.1 t) 3 ((evM 38 [.ref t, .int x0, .int x1] σ).bind fun z => ev 9 30 ls (z.1.toList ++ st) z.2) := e_callVK k9_27 (by decide) rfl ⟨hm, Nat.le_of_ble_eq_true rfl⟩
theorem k9_30 : cod 9 30 = some (.iload_n 2, 1, 0, 0, 0, 0) := rfl
theorem e9_30 (a0 a1 : Option Value) (x : Int32) (ls : mL) (st : List Value) (σ : mS) : ev 9 30 (a0 :: a1 :: some (.int x) :: ls) st σ = ev 9 31 (a0 :: a1 :: some (.int x) :: ls) (.int x :: st) σ := e_iload1 k9_30 rfl
theorem k9_31 : cod 9 31 = some (.invokestatic 62, 3, 84, 2, 1, 0) := rfl
theorem e9_31 (x0 : Int32) (x1 : Int32) (ls : mL) (st : List Value) (σ : mS) (hm : mCat st ≤ 8) : ev 9 31 ls (.int x1 :: .int x0 :: st) σ = (evM 84 [.int x0, .int x1] σ).bind fun z => ev 9 34 ls (z.1.toList ++ st) z.2 := e_callS k9_31 (by decide) rfl ⟨hm, Nat.le_of_ble_eq_true rfl⟩
theorem k9_34 : cod 9 34 = some (.ifCond .eq (13), 3, 47, 0, 0, 0) := rfl
theorem e9_34 (x : Int32) (ls : mL) (st : List Value) (σ : mS) : ev 9 34 ls (.int x :: st) σ = if x = 0 then ev 9 47 ls st σ else ev 9 37 ls st σ := e_if_eq k9_34
theorem k9_37 : cod 9 37 = some (.aload_n 0, 1, 0, 0, 0, 0) := rfl
theorem e9_37 (x : Nat) (ls : mL) (st : List Value) (σ : mS) : ev 9 37 (some (.ref x) :: ls) st σ = ev 9 38 (some (.ref x) :: ls) (.ref x :: st) σ := e_aload1 k9_37 rfl
theorem k9_38 : cod 9 38 = some (.iload_n 3, 1, 0, 0, 0, 0) := rfl
theorem e9_38 (a0 a1 a2 : Option Value) (x : Int32) (ls : mL) (st : List Value) (σ : mS) : ev 9 38 (a0 :: a1 :: a2 :: some (.int x) :: ls) st σ = ev 9 39 (a0 :: a1 :: a2 :: some (.int x) :: ls) (.int x :: st) σ := e_iload1 k9_38 rfl
theorem k9_39 : cod 9 39 = some (.invokevirtual 59, 3, 5, 1, 0, 0) := rfl
theorem e9_39 (t : Nat) (x0 : Int32) (ls : mL) (st : List Value) (σ : mS) (hm : mCat st ≤ 8) : ev 9 39 ls (.int x0 :: .ref t :: st) σ = isC (σ.1 t) 0 ((evM 5 [.ref t, .int x0] σ).bind fun z => ev 9 42 ls (z.1.toList ++ st) z.2) := e_callVK k9_39 (by decide) rfl ⟨hm, Nat.le_of_ble_eq_true rfl⟩
theorem k9_42 : cod 9 42 = some (.ifCond .eq (5), 3, 47, 0, 0, 0) := rfl
theorem e9_42 (x : Int32) (ls : mL) (st : List Value) (σ : mS) : ev 9 42 ls (.int x :: st) σ = if x = 0 then ev 9 47 ls st σ else ev 9 45 ls st σ := e_if_eq k9_42
theorem k9_45 : cod 9 45 = some (.iload_n 3, 1, 0, 0, 0, 0) := rfl
theorem e9_45 (a0 a1 a2 : Option Value) (x : Int32) (ls : mL) (st : List Value) (σ : mS) : ev 9 45 (a0 :: a1 :: a2 :: some (.int x) :: ls) st σ = ev 9 46 (a0 :: a1 :: a2 :: some (.int x) :: ls) (.int x :: st) σ := e_iload1 k9_45 rfl
theorem k9_46 : cod 9 46 = some (.ireturn, 1, 0, 0, 0, 0) := rfl
theorem e9_46 (x : Int32) (ls : mL) (σ : mS) : ev 9 46 ls [.int x] σ = some (some (.int x), σ) := e_iret k9_46 rfl
theorem k9_47 : cod 9 47 = some (.iinc 3 (1), 3, 0, 0, 0, 0) := rfl
theorem e9_47i (a0 a1 : Option Value) (y : Int32) (x : Int32) (ls : mL) (st : List Value) (σ : mS) : ev 9 47 (a0 :: a1 :: some (.int y) :: some (.int x) :: ls) st σ = ev 9 50 (a0 :: a1 :: some (.int y) :: some (.int (x + 1)) :: ls) st σ := e_iinc 1 k9_47 (by decide) rfl
theorem e9_47n (a0 a1 : Option Value) (x : Int32) (ls : mL) (st : List Value) (σ : mS) : ev 9 47 (a0 :: a1 :: none :: some (.int x) :: ls) st σ = ev 9 50 (a0 :: a1 :: none :: some (.int (x + 1)) :: ls) st σ := e_iinc 1 k9_47 (by decide) rfl
theorem e9_47r (a0 a1 : Option Value) (y : Nat) (x : Int32) (ls : mL) (st : List Value) (σ : mS) : ev 9 47 (a0 :: a1 :: some (.ref y) :: some (.int x) :: ls) st σ = ev 9 50 (a0 :: a1 :: some (.ref y) :: some (.int (x + 1)) :: ls) st σ := e_iinc 1 k9_47 (by decide) rfl
theorem k9_50 : cod 9 50 = some (.goto (-48), 3, 2, 0, 0, 0) := rfl
theorem e9_50 (ls : mL) (st : List Value) (σ : mS) : ev 9 50 ls st σ = ev 9 2 ls st σ := e_goto k9_50
theorem k9_53 : cod 9 53 = some (.bipush (-9), 2, 0, 0, 0, 0) := rfl
theorem e9_53 (ls : mL) (st : List Value) (σ : mS) : ev 9 53 ls st σ = ev 9 55 ls (.int (-9) :: st) σ := e_bipush (-9) k9_53 (by decide)
theorem k9_55 : cod 9 55 = some (.ireturn, 1, 0, 0, 0, 0) := rfl
theorem e9_55 (x : Int32) (ls : mL) (σ : mS) : ev 9 55 ls [.int x] σ = some (some (.int x), σ) := e_iret k9_55 rfl
theorem m9 (t : Nat) (x0 : Int32) (x1 : Int32) (σ : mS) : evM 9 [.ref t, .int x0, .int x1] σ = ev 9 0 [some (.ref t), some (.int x0), some (.int x1), none] [] σ := rfl
theorem k10_0 : cod 10 0 = some (.iload_n 1, 1, 0, 0, 0, 0) := rfl
theorem e10_0 (a0 : Option Value) (x : Int32) (ls : mL) (st : List Value) (σ : mS) : ev 10 0 (a0 :: some (.int x) :: ls) st σ = ev 10 1 (a0 :: some (.int x) :: ls) (.int x :: st) σ := e_iload1 k10_0 rfl
theorem k10_1 : cod 10 1 = some (.istore_n 3, 1, 0, 0, 0, 0) := rfl
theorem e10_1i (a0 a1 : Option Value) (y : Int32) (o : Option Value) (x : Int32) (ls : mL) (st : List Value) (σ : mS) : ev 10 1 (a0 :: a1 :: some (.int y) :: o :: ls) (.int x :: st) σ = ev 10 2 (a0 :: a1 :: some (.int y) :: some (.int x) :: ls) st σ := e_istore1 k10_1 (Nat.le_add_left 4 ls.length)
theorem e10_1n (a0 a1 : Option Value) (o : Option Value) (x : Int32) (ls : mL) (st : List Value) (σ : mS) : ev 10 1 (a0 :: a1 :: none :: o :: ls) (.int x :: st) σ = ev 10 2 (a0 :: a1 :: none :: some (.int x) :: ls) st σ := e_istore1 k10_1 (Nat.le_add_left 4 ls.length)
theorem e10_1r (a0 a1 : Option Value) (y : Nat) (o : Option Value) (x : Int32) (ls : mL) (st : List Value) (σ : mS) : ev 10 1 (a0 :: a1 :: some (.ref y) :: o :: ls) (.int x :: st) σ = ev 10 2 (a0 :: a1 :: some (.ref y) :: some (.int x) :: ls) st σ := e_istore1 k10_1 (Nat.le_add_left 4 ls.length)
theorem k10_2 : cod 10 2 = some (.iconst 0, 1, 0, 0, 0, 0) := rfl
theorem e10_2 (ls : mL) (st : List Value) (σ : mS) : ev 10 2 ls st σ = ev 10 3 ls (.int 0 :: st) σ := e_iconst 0 k10_2 (by decide)
theorem k10_3 : cod 10 3 = some (.istore 4, 2, 0, 0, 0, 0) := rfl
theorem e10_3i (a0 a1 a2 : Option Value) (y : Int32) (o : Option Value) (x : Int32) (ls : mL) (st : List Value) (σ : mS) : ev 10 3 (a0 :: a1 :: a2 :: some (.int y) :: o :: ls) (.int x :: st) σ = ev 10 5 (a0 :: a1 :: a2 :: some (.int y) :: some (.int x) :: ls) st σ := e_istore0 k10_3 (Nat.le_add_left 5 ls.length)
theorem e10_3n (a0 a1 a2 : Option Value) (o : Option Value) (x : Int32) (ls : mL) (st : List Value) (σ : mS) : ev 10 3 (a0 :: a1 :: a2 :: none :: o :: ls) (.int x :: st) σ = ev 10 5 (a0 :: a1 :: a2 :: none :: some (.int x) :: ls) st σ := e_istore0 k10_3 (Nat.le_add_left 5 ls.length)
theorem e10_3r (a0 a1 a2 : Option Value) (y : Nat) (o : Option Value) (x : Int32) (ls : mL) (st : List Value) (σ : mS) : ev 10 3 (a0 :: a1 :: a2 :: some (.ref y) :: o :: ls) (.int x :: st) σ = ev 10 5 (a0 :: a1 :: a2 :: some (.ref y) :: some (.int x) :: ls) st σ := e_istore0 k10_3 (Nat.le_add_left 5 ls.length)
theorem k10_5 : cod 10 5 = some (.iload 4, 2, 0, 0, 0, 0) := rfl
theorem e10_5 (a0 a1 a2 a3 : Option Value) (x : Int32) (ls : mL) (st : List Value) (σ : mS) : ev 10 5 (a0 :: a1 :: a2 :: a3 :: some (.int x) :: ls) st σ = ev 10 7 (a0 :: a1 :: a2 :: a3 :: some (.int x) :: ls) (.int x :: st) σ := e_iload0 k10_5 rfl
theorem k10_7 : cod 10 7 = some (.bipush (8), 2, 0, 0, 0, 0) := rfl
theorem e10_7 (ls : mL) (st : List Value) (σ : mS) : ev 10 7 ls st σ = ev 10 9 ls (.int 8 :: st) σ := e_bipush 8 k10_7 (by decide)
theorem k10_9 : cod 10 9 = some (.if_icmp .ge (55), 3, 64, 0, 0, 0) := rfl
theorem e10_9 (x y : Int32) (ls : mL) (st : List Value) (σ : mS) : ev 10 9 ls (.int y :: .int x :: st) σ = if y ≤ x then ev 10 64 ls st σ else ev 10 12 ls st σ := e_ic_ge k10_9
theorem k10_12 : cod 10 12 = some (.aload_n 0, 1, 0, 0, 0, 0) := rfl
theorem e10_12 (x : Nat) (ls : mL) (st : List Value) (σ : mS) : ev 10 12 (some (.ref x) :: ls) st σ = ev 10 13 (some (.ref x) :: ls) (.ref x :: st) σ := e_aload1 k10_12 rfl
theorem k10_13 : cod 10 13 = some (.getfield 14, 3, 0, 0, 0, 3) := rfl
theorem e10_13 (t : Nat) (ls : mL) (st : List Value) (σ : mS) : ev 10 13 ls (.ref t :: st) σ = gfK (σ.1 t) 0 0 (fun v => ev 10 16 ls (v :: st) σ) := e_getf k10_13
theorem k10_16 : cod 10 16 = some (.iload_n 3, 1, 0, 0, 0, 0) := rfl
theorem e10_16 (a0 a1 a2 : Option Value) (x : Int32) (ls : mL) (st : List Value) (σ : mS) : ev 10 16 (a0 :: a1 :: a2 :: some (.int x) :: ls) st σ = ev 10 17 (a0 :: a1 :: a2 :: some (.int x) :: ls) (.int x :: st) σ := e_iload1 k10_16 rfl
theorem k10_17 : cod 10 17 = some (.invokevirtual 48, 3, 37, 1, 0, 3) := rfl
theorem e10_17 (t : Nat) (x0 : Int32) (ls : mL) (st : List Value) (σ : mS) (hm : mCat st ≤ 8) : ev 10 17 ls (.int x0 :: .ref t :: st) σ = isC (σ.1 t) 3 ((evM 37 [.ref t, .int x0] σ).bind fun z => ev 10 20 ls (z.1.toList ++ st) z.2) := e_callVK k10_17 (by decide) rfl ⟨hm, Nat.le_of_ble_eq_true rfl⟩
theorem k10_20 : cod 10 20 = some (.ifCond .eq (44), 3, 64, 0, 0, 0) := rfl
theorem e10_20 (x : Int32) (ls : mL) (st : List Value) (σ : mS) : ev 10 20 ls (.int x :: st) σ = if x = 0 then ev 10 64 ls st σ else ev 10 23 ls st σ := e_if_eq k10_20
theorem k10_23 : cod 10 23 = some (.aload_n 0, 1, 0, 0, 0, 0) := rfl
theorem e10_23 (x : Nat) (ls : mL) (st : List Value) (σ : mS) : ev 10 23 (some (.ref x) :: ls) st σ = ev 10 24 (some (.ref x) :: ls) (.ref x :: st) σ := e_aload1 k10_23 rfl
theorem k10_24 : cod 10 24 = some (.getfield 14, 3, 0, 0, 0, 3) := rfl
theorem e10_24 (t : Nat) (ls : mL) (st : List Value) (σ : mS) : ev 10 24 ls (.ref t :: st) σ = gfK (σ.1 t) 0 0 (fun v => ev 10 27 ls (v :: st) σ) := e_getf k10_24
theorem k10_27 : cod 10 27 = some (.iload_n 3, 1, 0, 0, 0, 0) := rfl
theorem e10_27 (a0 a1 a2 : Option Value) (x : Int32) (ls : mL) (st : List Value) (σ : mS) : ev 10 27 (a0 :: a1 :: a2 :: some (.int x) :: ls) st σ = ev 10 28 (a0 :: a1 :: a2 :: some (.int x) :: ls) (.int x :: st) σ := e_iload1 k10_27 rfl
theorem k10_28 : cod 10 28 = some (.iconst 2, 1, 0, 0, 0, 0) := rfl
theorem e10_28 (ls : mL) (st : List Value) (σ : mS) : ev 10 28 ls st σ = ev 10 29 ls (.int 2 :: st) σ := e_iconst 2 k10_28 (by decide)
theorem k10_29 : cod 10 29 = some (.invokevirtual 52, 3, 38, 2, 0, 3) := rfl
theorem e10_29 (t : Nat) (x0 : Int32) (x1 : Int32) (ls : mL) (st : List Value) (σ : mS) (hm : mCat st ≤ 8) : ev 10 29 ls (.int x1 :: .int x0 :: .ref t :: st) σ = isC (σ.1 t) 3 ((evM 38 [.ref t, .int x0, .int x1] σ).bind fun z => ev 10 32 ls (z.1.toList ++ st) z.2) := e_callVK k10_29 (by decide) rfl ⟨hm, Nat.le_of_ble_eq_true rfl⟩
theorem k10_32 : cod 10 32 = some (.iload_n 2, 1, 0, 0, 0, 0) := rfl
theorem e10_32 (a0 a1 : Option Value) (x : Int32) (ls : mL) (st : List Value) (σ : mS) : ev 10 32 (a0 :: a1 :: some (.int x) :: ls) st σ = ev 10 33 (a0 :: a1 :: some (.int x) :: ls) (.int x :: st) σ := e_iload1 k10_32 rfl
theorem k10_33 : cod 10 33 = some (.iadd, 1, 0, 0, 0, 0) := rfl
theorem e10_33 (x y : Int32) (ls : mL) (st : List Value) (σ : mS) : ev 10 33 ls (.int y :: .int x :: st) σ = ev 10 34 ls (.int (x + y) :: st) σ := e_iadd k10_33
theorem k10_34 : cod 10 34 = some (.aload_n 0, 1, 0, 0, 0, 0) := rfl
theorem e10_34 (x : Nat) (ls : mL) (st : List Value) (σ : mS) : ev 10 34 (some (.ref x) :: ls) st σ = ev 10 35 (some (.ref x) :: ls) (.ref x :: st) σ := e_aload1 k10_34 rfl
theorem k10_35 : cod 10 35 = some (.getfield 14, 3, 0, 0, 0, 3) := rfl
theorem e10_35 (t : Nat) (ls : mL) (st : List Value) (σ : mS) : ev 10 35 ls (.ref t :: st) σ = gfK (σ.1 t) 0 0 (fun v => ev 10 38 ls (v :: st) σ) := e_getf k10_35
theorem k10_38 : cod 10 38 = some (.iload_n 3, 1, 0, 0, 0, 0) := rfl
theorem e10_38 (a0 a1 a2 : Option Value) (x : Int32) (ls : mL) (st : List Value) (σ : mS) : ev 10 38 (a0 :: a1 :: a2 :: some (.int x) :: ls) st σ = ev 10 39 (a0 :: a1 :: a2 :: some (.int x) :: ls) (.int x :: st) σ := e_iload1 k10_38 rfl
theorem k10_39 : cod 10 39 = some (.iconst 1, 1, 0, 0, 0, 0) := rfl
theorem e10_39 (ls : mL) (st : List Value) (σ : mS) : ev 10 39 ls st σ = ev 10 40 ls (.int 1 :: st) σ := e_iconst 1 k10_39 (by decide)
theorem k10_40 : cod 10 40 = some (.invokevirtual 52, 3, 38, 2, 0, 3) := rfl
theorem e10_40 (t : Nat) (x0 : Int32) (x1 : Int32) (ls : mL) (st : List Value) (σ : mS) (hm : mCat st ≤ 8) : ev 10 40 ls (.int x1 :: .int x0 :: .ref t :: st) σ = isC (σ.1 t) 3 ((evM 38 [.ref t, .int x0, .int x1] σ).bind fun z => ev 10 43 ls (z.1.toList ++ st) z.2) := e_callVK k10_40 (by decide) rfl ⟨hm, Nat.le_of_ble_eq_true rfl⟩
theorem k10_43 : cod 10 43 = some (.if_icmp .le (5), 3, 48, 0, 0, 0) := rfl
theorem e10_43 (x y : Int32) (ls : mL) (st : List Value) (σ : mS) : ev 10 43 ls (.int y :: .int x :: st) σ = if x ≤ y then ev 10 48 ls st σ else ev 10 46 ls st σ := e_ic_le k10_43
theorem k10_46 : cod 10 46 = some (.iconst 0, 1, 0, 0, 0, 0) := rfl
theorem e10_46 (ls : mL) (st : List Value) (σ : mS) : ev 10 46 ls st σ = ev 10 47 ls (.int 0 :: st) σ := e_iconst 0 k10_46 (by decide)
theorem k10_47 : cod 10 47 = some (.ireturn, 1, 0, 0, 0, 0) := rfl
theorem e10_47 (x : Int32) (ls : mL) (σ : mS) : ev 10 47 ls [.int x] σ = if x = 0 ∨ x = 1 then some (some (.int x), σ) else none := e_zret k10_47 rfl
theorem e10_47b0 (ls : mL) (σ : mS) : ev 10 47 ls [.int 0] σ = some (some (.int 0), σ) := (e_zret k10_47 rfl).trans (if_pos (Or.inl rfl))
theorem e10_47b1 (ls : mL) (σ : mS) : ev 10 47 ls [.int 1] σ = some (some (.int 1), σ) := (e_zret k10_47 rfl).trans (if_pos (Or.inr rfl))
theorem k10_48 : cod 10 48 = some (.aload_n 0, 1, 0, 0, 0, 0) := rfl
theorem e10_48 (x : Nat) (ls : mL) (st : List Value) (σ : mS) : ev 10 48 (some (.ref x) :: ls) st σ = ev 10 49 (some (.ref x) :: ls) (.ref x :: st) σ := e_aload1 k10_48 rfl
theorem k10_49 : cod 10 49 = some (.getfield 14, 3, 0, 0, 0, 3) := rfl
theorem e10_49 (t : Nat) (ls : mL) (st : List Value) (σ : mS) : ev 10 49 ls (.ref t :: st) σ = gfK (σ.1 t) 0 0 (fun v => ev 10 52 ls (v :: st) σ) := e_getf k10_49
theorem k10_52 : cod 10 52 = some (.iload_n 3, 1, 0, 0, 0, 0) := rfl
theorem e10_52 (a0 a1 a2 : Option Value) (x : Int32) (ls : mL) (st : List Value) (σ : mS) : ev 10 52 (a0 :: a1 :: a2 :: some (.int x) :: ls) st σ = ev 10 53 (a0 :: a1 :: a2 :: some (.int x) :: ls) (.int x :: st) σ := e_iload1 k10_52 rfl
theorem k10_53 : cod 10 53 = some (.iconst 0, 1, 0, 0, 0, 0) := rfl
theorem e10_53 (ls : mL) (st : List Value) (σ : mS) : ev 10 53 ls st σ = ev 10 54 ls (.int 0 :: st) σ := e_iconst 0 k10_53 (by decide)
theorem k10_54 : cod 10 54 = some (.invokevirtual 52, 3, 38, 2, 0, 3) := rfl
theorem e10_54 (t : Nat) (x0 : Int32) (x1 : Int32) (ls : mL) (st : List Value) (σ : mS) (hm : mCat st ≤ 8) : ev 10 54 ls (.int x1 :: .int x0 :: .ref t :: st) σ = isC (σ.1 t) 3 ((evM 38 [.ref t, .int x0, .int x1] σ).bind fun z => ev 10 57 ls (z.1.toList ++ st) z.2) := e_callVK k10_54 (by decide) rfl ⟨hm, Nat.le_of_ble_eq_true rfl⟩
theorem k10_57 : cod 10 57 = some (.istore_n 3, 1, 0, 0, 0, 0) := rfl
theorem e10_57i (a0 a1 : Option Value) (y : Int32) (o : Option Value) (x : Int32) (ls : mL) (st : List Value) (σ : mS) : ev 10 57 (a0 :: a1 :: some (.int y) :: o :: ls) (.int x :: st) σ = ev 10 58 (a0 :: a1 :: some (.int y) :: some (.int x) :: ls) st σ := e_istore1 k10_57 (Nat.le_add_left 4 ls.length)
theorem e10_57n (a0 a1 : Option Value) (o : Option Value) (x : Int32) (ls : mL) (st : List Value) (σ : mS) : ev 10 57 (a0 :: a1 :: none :: o :: ls) (.int x :: st) σ = ev 10 58 (a0 :: a1 :: none :: some (.int x) :: ls) st σ := e_istore1 k10_57 (Nat.le_add_left 4 ls.length)
theorem e10_57r (a0 a1 : Option Value) (y : Nat) (o : Option Value) (x : Int32) (ls : mL) (st : List Value) (σ : mS) : ev 10 57 (a0 :: a1 :: some (.ref y) :: o :: ls) (.int x :: st) σ = ev 10 58 (a0 :: a1 :: some (.ref y) :: some (.int x) :: ls) st σ := e_istore1 k10_57 (Nat.le_add_left 4 ls.length)
theorem k10_58 : cod 10 58 = some (.iinc 4 (1), 3, 0, 0, 0, 0) := rfl
theorem e10_58i (a0 a1 a2 : Option Value) (y : Int32) (x : Int32) (ls : mL) (st : List Value) (σ : mS) : ev 10 58 (a0 :: a1 :: a2 :: some (.int y) :: some (.int x) :: ls) st σ = ev 10 61 (a0 :: a1 :: a2 :: some (.int y) :: some (.int (x + 1)) :: ls) st σ := e_iinc 1 k10_58 (by decide) rfl
theorem e10_58n (a0 a1 a2 : Option Value) (x : Int32) (ls : mL) (st : List Value) (σ : mS) : ev 10 58 (a0 :: a1 :: a2 :: none :: some (.int x) :: ls) st σ = ev 10 61 (a0 :: a1 :: a2 :: none :: some (.int (x + 1)) :: ls) st σ := e_iinc 1 k10_58 (by decide) rfl
theorem e10_58r (a0 a1 a2 : Option Value) (y : Nat) (x : Int32) (ls : mL) (st : List Value) (σ : mS) : ev 10 58 (a0 :: a1 :: a2 :: some (.ref y) :: some (.int x) :: ls) st σ = ev 10 61 (a0 :: a1 :: a2 :: some (.ref y) :: some (.int (x + 1)) :: ls) st σ := e_iinc 1 k10_58 (by decide) rfl
theorem k10_61 : cod 10 61 = some (.goto (-56), 3, 5, 0, 0, 0) := rfl
theorem e10_61 (ls : mL) (st : List Value) (σ : mS) : ev 10 61 ls st σ = ev 10 5 ls st σ := e_goto k10_61
theorem k10_64 : cod 10 64 = some (.iconst 1, 1, 0, 0, 0, 0) := rfl
theorem e10_64 (ls : mL) (st : List Value) (σ : mS) : ev 10 64 ls st σ = ev 10 65 ls (.int 1 :: st) σ := e_iconst 1 k10_64 (by decide)
theorem k10_65 : cod 10 65 = some (.ireturn, 1, 0, 0, 0, 0) := rfl
theorem e10_65 (x : Int32) (ls : mL) (σ : mS) : ev 10 65 ls [.int x] σ = if x = 0 ∨ x = 1 then some (some (.int x), σ) else none := e_zret k10_65 rfl
theorem e10_65b0 (ls : mL) (σ : mS) : ev 10 65 ls [.int 0] σ = some (some (.int 0), σ) := (e_zret k10_65 rfl).trans (if_pos (Or.inl rfl))
theorem e10_65b1 (ls : mL) (σ : mS) : ev 10 65 ls [.int 1] σ = some (some (.int 1), σ) := (e_zret k10_65 rfl).trans (if_pos (Or.inr rfl))
theorem m10 (t : Nat) (x0 : Int32) (x1 : Int32) (σ : mS) : evM 10 [.ref t, .int x0, .int x1] σ = ev 10 0 [some (.ref t), some (.int x0), some (.int x1), none, none] [] σ := rfl
theorem k11_0 : cod 11 0 = some (.aload_n 0, 1, 0, 0, 0, 0) := rfl
theorem e11_0 (x : Nat) (ls : mL) (st : List Value) (σ : mS) : ev 11 0 (some (.ref x) :: ls) st σ = ev 11 1 (some (.ref x) :: ls) (.ref x :: st) σ := e_aload1 k11_0 rfl
theorem k11_1 : cod 11 1 = some (.getfield 26, 3, 0, 3, 0, 3) := rfl
theorem e11_1 (t : Nat) (ls : mL) (st : List Value) (σ : mS) : ev 11 1 ls (.ref t :: st) σ = gfK (σ.1 t) 0 3 (fun v => ev 11 4 ls (v :: st) σ) := e_getf k11_1
theorem k11_4 : cod 11 4 = some (.invokevirtual 37, 3, 33, 0, 0, 3) := rfl
theorem e11_4 (t : Nat) (ls : mL) (st : List Value) (σ : mS) (hm : mCat st ≤ 8) : ev 11 4 ls (.ref t :: st) σ = isC (σ.1 t) 3 ((evM 33 [.ref t] σ).bind fun z => ev 11 7 ls (z.1.toList ++ st) z.2) := e_callVK k11_4 (by decide) rfl ⟨hm, Nat.le_of_ble_eq_true rfl⟩
theorem k11_7 : cod 11 7 = some (.istore 4, 2, 0, 0, 0, 0) := rfl
theorem e11_7i (a0 a1 a2 : Option Value) (y : Int32) (o : Option Value) (x : Int32) (ls : mL) (st : List Value) (σ : mS) : ev 11 7 (a0 :: a1 :: a2 :: some (.int y) :: o :: ls) (.int x :: st) σ = ev 11 9 (a0 :: a1 :: a2 :: some (.int y) :: some (.int x) :: ls) st σ := e_istore0 k11_7 (Nat.le_add_left 5 ls.length)
theorem e11_7n (a0 a1 a2 : Option Value) (o : Option Value) (x : Int32) (ls : mL) (st : List Value) (σ : mS) : ev 11 7 (a0 :: a1 :: a2 :: none :: o :: ls) (.int x :: st) σ = ev 11 9 (a0 :: a1 :: a2 :: none :: some (.int x) :: ls) st σ := e_istore0 k11_7 (Nat.le_add_left 5 ls.length)
theorem e11_7r (a0 a1 a2 : Option Value) (y : Nat) (o : Option Value) (x : Int32) (ls : mL) (st : List Value) (σ : mS) : ev 11 7 (a0 :: a1 :: a2 :: some (.ref y) :: o :: ls) (.int x :: st) σ = ev 11 9 (a0 :: a1 :: a2 :: some (.ref y) :: some (.int x) :: ls) st σ := e_istore0 k11_7 (Nat.le_add_left 5 ls.length)
theorem k11_9 : cod 11 9 = some (.aload_n 0, 1, 0, 0, 0, 0) := rfl
theorem e11_9 (x : Nat) (ls : mL) (st : List Value) (σ : mS) : ev 11 9 (some (.ref x) :: ls) st σ = ev 11 10 (some (.ref x) :: ls) (.ref x :: st) σ := e_aload1 k11_9 rfl
theorem k11_10 : cod 11 10 = some (.getfield 26, 3, 0, 3, 0, 3) := rfl
theorem e11_10 (t : Nat) (ls : mL) (st : List Value) (σ : mS) : ev 11 10 ls (.ref t :: st) σ = gfK (σ.1 t) 0 3 (fun v => ev 11 13 ls (v :: st) σ) := e_getf k11_10
theorem k11_13 : cod 11 13 = some (.iload 4, 2, 0, 0, 0, 0) := rfl
theorem e11_13 (a0 a1 a2 a3 : Option Value) (x : Int32) (ls : mL) (st : List Value) (σ : mS) : ev 11 13 (a0 :: a1 :: a2 :: a3 :: some (.int x) :: ls) st σ = ev 11 15 (a0 :: a1 :: a2 :: a3 :: some (.int x) :: ls) (.int x :: st) σ := e_iload0 k11_13 rfl
theorem k11_15 : cod 11 15 = some (.iconst 0, 1, 0, 0, 0, 0) := rfl
theorem e11_15 (ls : mL) (st : List Value) (σ : mS) : ev 11 15 ls st σ = ev 11 16 ls (.int 0 :: st) σ := e_iconst 0 k11_15 (by decide)
theorem k11_16 : cod 11 16 = some (.aload_n 0, 1, 0, 0, 0, 0) := rfl
theorem e11_16 (x : Nat) (ls : mL) (st : List Value) (σ : mS) : ev 11 16 (some (.ref x) :: ls) st σ = ev 11 17 (some (.ref x) :: ls) (.ref x :: st) σ := e_aload1 k11_16 rfl
theorem k11_17 : cod 11 17 = some (.getfield 33, 3, 0, 4, 0, 0) := rfl
theorem e11_17 (t : Nat) (ls : mL) (st : List Value) (σ : mS) : ev 11 17 ls (.ref t :: st) σ = gfK (σ.1 t) 0 4 (fun v => ev 11 20 ls (v :: st) σ) := e_getf k11_17
theorem k11_20 : cod 11 20 = some (.invokevirtual 41, 3, 35, 3, 0, 3) := rfl
theorem e11_20 (t : Nat) (x0 : Int32) (x1 : Int32) (x2 : Int32) (ls : mL) (st : List Value) (σ : mS) (hm : mCat st ≤ 8) : ev 11 20 ls (.int x2 :: .int x1 :: .int x0 :: .ref t :: st) σ = isC (σ.1 t) 3 ((evM 35 [.ref t, .int x0, .int x1, .int x2] σ).bind fun z => ev 11 23 ls (z.1.toList ++ st) z.2) := e_callVK k11_20 (by decide) rfl ⟨hm, Nat.le_of_ble_eq_true rfl⟩
theorem k11_23 : cod 11 23 = some (.aload_n 0, 1, 0, 0, 0, 0) := rfl
theorem e11_23 (x : Nat) (ls : mL) (st : List Value) (σ : mS) : ev 11 23 (some (.ref x) :: ls) st σ = ev 11 24 (some (.ref x) :: ls) (.ref x :: st) σ := e_aload1 k11_23 rfl
theorem k11_24 : cod 11 24 = some (.getfield 26, 3, 0, 3, 0, 3) := rfl
theorem e11_24 (t : Nat) (ls : mL) (st : List Value) (σ : mS) : ev 11 24 ls (.ref t :: st) σ = gfK (σ.1 t) 0 3 (fun v => ev 11 27 ls (v :: st) σ) := e_getf k11_24
theorem k11_27 : cod 11 27 = some (.iload 4, 2, 0, 0, 0, 0) := rfl
theorem e11_27 (a0 a1 a2 a3 : Option Value) (x : Int32) (ls : mL) (st : List Value) (σ : mS) : ev 11 27 (a0 :: a1 :: a2 :: a3 :: some (.int x) :: ls) st σ = ev 11 29 (a0 :: a1 :: a2 :: a3 :: some (.int x) :: ls) (.int x :: st) σ := e_iload0 k11_27 rfl
theorem k11_29 : cod 11 29 = some (.iconst 1, 1, 0, 0, 0, 0) := rfl
theorem e11_29 (ls : mL) (st : List Value) (σ : mS) : ev 11 29 ls st σ = ev 11 30 ls (.int 1 :: st) σ := e_iconst 1 k11_29 (by decide)
theorem k11_30 : cod 11 30 = some (.iload_n 1, 1, 0, 0, 0, 0) := rfl
theorem e11_30 (a0 : Option Value) (x : Int32) (ls : mL) (st : List Value) (σ : mS) : ev 11 30 (a0 :: some (.int x) :: ls) st σ = ev 11 31 (a0 :: some (.int x) :: ls) (.int x :: st) σ := e_iload1 k11_30 rfl
theorem k11_31 : cod 11 31 = some (.invokevirtual 41, 3, 35, 3, 0, 3) := rfl
theorem e11_31 (t : Nat) (x0 : Int32) (x1 : Int32) (x2 : Int32) (ls : mL) (st : List Value) (σ : mS) (hm : mCat st ≤ 8) : ev 11 31 ls (.int x2 :: .int x1 :: .int x0 :: .ref t :: st) σ = isC (σ.1 t) 3 ((evM 35 [.ref t, .int x0, .int x1, .int x2] σ).bind fun z => ev 11 34 ls (z.1.toList ++ st) z.2) := e_callVK k11_31 (by decide) rfl ⟨hm, Nat.le_of_ble_eq_true rfl⟩
theorem k11_34 : cod 11 34 = some (.aload_n 0, 1, 0, 0, 0, 0) := rfl
theorem e11_34 (x : Nat) (ls : mL) (st : List Value) (σ : mS) : ev 11 34 (some (.ref x) :: ls) st σ = ev 11 35 (some (.ref x) :: ls) (.ref x :: st) σ := e_aload1 k11_34 rfl
theorem k11_35 : cod 11 35 = some (.getfield 26, 3, 0, 3, 0, 3) := rfl
theorem e11_35 (t : Nat) (ls : mL) (st : List Value) (σ : mS) : ev 11 35 ls (.ref t :: st) σ = gfK (σ.1 t) 0 3 (fun v => ev 11 38 ls (v :: st) σ) := e_getf k11_35
theorem k11_38 : cod 11 38 = some (.iload 4, 2, 0, 0, 0, 0) := rfl
theorem e11_38 (a0 a1 a2 a3 : Option Value) (x : Int32) (ls : mL) (st : List Value) (σ : mS) : ev 11 38 (a0 :: a1 :: a2 :: a3 :: some (.int x) :: ls) st σ = ev 11 40 (a0 :: a1 :: a2 :: a3 :: some (.int x) :: ls) (.int x :: st) σ := e_iload0 k11_38 rfl
theorem k11_40 : cod 11 40 = some (.bipush (6), 2, 0, 0, 0, 0) := rfl
theorem e11_40 (ls : mL) (st : List Value) (σ : mS) : ev 11 40 ls st σ = ev 11 42 ls (.int 6 :: st) σ := e_bipush 6 k11_40 (by decide)
theorem k11_42 : cod 11 42 = some (.iload_n 2, 1, 0, 0, 0, 0) := rfl
theorem e11_42 (a0 a1 : Option Value) (x : Int32) (ls : mL) (st : List Value) (σ : mS) : ev 11 42 (a0 :: a1 :: some (.int x) :: ls) st σ = ev 11 43 (a0 :: a1 :: some (.int x) :: ls) (.int x :: st) σ := e_iload1 k11_42 rfl
theorem k11_43 : cod 11 43 = some (.invokevirtual 41, 3, 35, 3, 0, 3) := rfl
theorem e11_43 (t : Nat) (x0 : Int32) (x1 : Int32) (x2 : Int32) (ls : mL) (st : List Value) (σ : mS) (hm : mCat st ≤ 8) : ev 11 43 ls (.int x2 :: .int x1 :: .int x0 :: .ref t :: st) σ = isC (σ.1 t) 3 ((evM 35 [.ref t, .int x0, .int x1, .int x2] σ).bind fun z => ev 11 46 ls (z.1.toList ++ st) z.2) := e_callVK k11_43 (by decide) rfl ⟨hm, Nat.le_of_ble_eq_true rfl⟩
theorem k11_46 : cod 11 46 = some (.aload_n 0, 1, 0, 0, 0, 0) := rfl
theorem e11_46 (x : Nat) (ls : mL) (st : List Value) (σ : mS) : ev 11 46 (some (.ref x) :: ls) st σ = ev 11 47 (some (.ref x) :: ls) (.ref x :: st) σ := e_aload1 k11_46 rfl
theorem k11_47 : cod 11 47 = some (.getfield 26, 3, 0, 3, 0, 3) := rfl
theorem e11_47 (t : Nat) (ls : mL) (st : List Value) (σ : mS) : ev 11 47 ls (.ref t :: st) σ = gfK (σ.1 t) 0 3 (fun v => ev 11 50 ls (v :: st) σ) := e_getf k11_47
theorem k11_50 : cod 11 50 = some (.iload 4, 2, 0, 0, 0, 0) := rfl
theorem e11_50 (a0 a1 a2 a3 : Option Value) (x : Int32) (ls : mL) (st : List Value) (σ : mS) : ev 11 50 (a0 :: a1 :: a2 :: a3 :: some (.int x) :: ls) st σ = ev 11 52 (a0 :: a1 :: a2 :: a3 :: some (.int x) :: ls) (.int x :: st) σ := e_iload0 k11_50 rfl
theorem k11_52 : cod 11 52 = some (.bipush (7), 2, 0, 0, 0, 0) := rfl
theorem e11_52 (ls : mL) (st : List Value) (σ : mS) : ev 11 52 ls st σ = ev 11 54 ls (.int 7 :: st) σ := e_bipush 7 k11_52 (by decide)
theorem k11_54 : cod 11 54 = some (.iload_n 3, 1, 0, 0, 0, 0) := rfl
theorem e11_54 (a0 a1 a2 : Option Value) (x : Int32) (ls : mL) (st : List Value) (σ : mS) : ev 11 54 (a0 :: a1 :: a2 :: some (.int x) :: ls) st σ = ev 11 55 (a0 :: a1 :: a2 :: some (.int x) :: ls) (.int x :: st) σ := e_iload1 k11_54 rfl
theorem k11_55 : cod 11 55 = some (.invokevirtual 41, 3, 35, 3, 0, 3) := rfl
theorem e11_55 (t : Nat) (x0 : Int32) (x1 : Int32) (x2 : Int32) (ls : mL) (st : List Value) (σ : mS) (hm : mCat st ≤ 8) : ev 11 55 ls (.int x2 :: .int x1 :: .int x0 :: .ref t :: st) σ = isC (σ.1 t) 3 ((evM 35 [.ref t, .int x0, .int x1, .int x2] σ).bind fun z => ev 11 58 ls (z.1.toList ++ st) z.2) := e_callVK k11_55 (by decide) rfl ⟨hm, Nat.le_of_ble_eq_true rfl⟩
theorem k11_58 : cod 11 58 = some (.aload_n 0, 1, 0, 0, 0, 0) := rfl
theorem e11_58 (x : Nat) (ls : mL) (st : List Value) (σ : mS) : ev 11 58 (some (.ref x) :: ls) st σ = ev 11 59 (some (.ref x) :: ls) (.ref x :: st) σ := e_aload1 k11_58 rfl
theorem k11_59 : cod 11 59 = some (.getfield 20, 3, 0, 1, 0, 3) := rfl
theorem e11_59 (t : Nat) (ls : mL) (st : List Value) (σ : mS) : ev 11 59 ls (.ref t :: st) σ = gfK (σ.1 t) 0 1 (fun v => ev 11 62 ls (v :: st) σ) := e_getf k11_59
theorem k11_62 : cod 11 62 = some (.iload_n 1, 1, 0, 0, 0, 0) := rfl
theorem e11_62 (a0 : Option Value) (x : Int32) (ls : mL) (st : List Value) (σ : mS) : ev 11 62 (a0 :: some (.int x) :: ls) st σ = ev 11 63 (a0 :: some (.int x) :: ls) (.int x :: st) σ := e_iload1 k11_62 rfl
theorem k11_63 : cod 11 63 = some (.iconst 3, 1, 0, 0, 0, 0) := rfl
theorem e11_63 (ls : mL) (st : List Value) (σ : mS) : ev 11 63 ls st σ = ev 11 64 ls (.int 3 :: st) σ := e_iconst 3 k11_63 (by decide)
theorem k11_64 : cod 11 64 = some (.iconst 1, 1, 0, 0, 0, 0) := rfl
theorem e11_64 (ls : mL) (st : List Value) (σ : mS) : ev 11 64 ls st σ = ev 11 65 ls (.int 1 :: st) σ := e_iconst 1 k11_64 (by decide)
theorem k11_65 : cod 11 65 = some (.invokevirtual 45, 3, 39, 3, 0, 3) := rfl
theorem e11_65 (t : Nat) (x0 : Int32) (x1 : Int32) (x2 : Int32) (ls : mL) (st : List Value) (σ : mS) (hm : mCat st ≤ 8) : ev 11 65 ls (.int x2 :: .int x1 :: .int x0 :: .ref t :: st) σ = isC (σ.1 t) 3 ((evM 39 [.ref t, .int x0, .int x1, .int x2] σ).bind fun z => ev 11 68 ls (z.1.toList ++ st) z.2) := e_callVK k11_65 (by decide) rfl ⟨hm, Nat.le_of_ble_eq_true rfl⟩
theorem k11_68 : cod 11 68 = some (.iload 4, 2, 0, 0, 0, 0) := rfl
theorem e11_68 (a0 a1 a2 a3 : Option Value) (x : Int32) (ls : mL) (st : List Value) (σ : mS) : ev 11 68 (a0 :: a1 :: a2 :: a3 :: some (.int x) :: ls) st σ = ev 11 70 (a0 :: a1 :: a2 :: a3 :: some (.int x) :: ls) (.int x :: st) σ := e_iload0 k11_68 rfl
theorem k11_70 : cod 11 70 = some (.ireturn, 1, 0, 0, 0, 0) := rfl
theorem e11_70 (x : Int32) (ls : mL) (σ : mS) : ev 11 70 ls [.int x] σ = some (some (.int x), σ) := e_iret k11_70 rfl
theorem m11 (t : Nat) (x0 : Int32) (x1 : Int32) (x2 : Int32) (σ : mS) : evM 11 [.ref t, .int x0, .int x1, .int x2] σ = ev 11 0 [some (.ref t), some (.int x0), some (.int x1), some (.int x2), none] [] σ := rfl
theorem k12_0 : cod 12 0 = some (.iload_n 1, 1, 0, 0, 0, 0) := rfl
theorem e12_0 (a0 : Option Value) (x : Int32) (ls : mL) (st : List Value) (σ : mS) : ev 12 0 (a0 :: some (.int x) :: ls) st σ = ev 12 1 (a0 :: some (.int x) :: ls) (.int x :: st) σ := e_iload1 k12_0 rfl
theorem k12_1 : cod 12 1 = some (.istore_n 2, 1, 0, 0, 0, 0) := rfl
theorem e12_1i (a0 : Option Value) (y : Int32) (o : Option Value) (x : Int32) (ls : mL) (st : List Value) (σ : mS) : ev 12 1 (a0 :: some (.int y) :: o :: ls) (.int x :: st) σ = ev 12 2 (a0 :: some (.int y) :: some (.int x) :: ls) st σ := e_istore1 k12_1 (Nat.le_add_left 3 ls.length)
theorem e12_1n (a0 : Option Value) (o : Option Value) (x : Int32) (ls : mL) (st : List Value) (σ : mS) : ev 12 1 (a0 :: none :: o :: ls) (.int x :: st) σ = ev 12 2 (a0 :: none :: some (.int x) :: ls) st σ := e_istore1 k12_1 (Nat.le_add_left 3 ls.length)
theorem e12_1r (a0 : Option Value) (y : Nat) (o : Option Value) (x : Int32) (ls : mL) (st : List Value) (σ : mS) : ev 12 1 (a0 :: some (.ref y) :: o :: ls) (.int x :: st) σ = ev 12 2 (a0 :: some (.ref y) :: some (.int x) :: ls) st σ := e_istore1 k12_1 (Nat.le_add_left 3 ls.length)
theorem k12_2 : cod 12 2 = some (.iconst 0, 1, 0, 0, 0, 0) := rfl
theorem e12_2 (ls : mL) (st : List Value) (σ : mS) : ev 12 2 ls st σ = ev 12 3 ls (.int 0 :: st) σ := e_iconst 0 k12_2 (by decide)
theorem k12_3 : cod 12 3 = some (.istore_n 3, 1, 0, 0, 0, 0) := rfl
theorem e12_3i (a0 a1 : Option Value) (y : Int32) (o : Option Value) (x : Int32) (ls : mL) (st : List Value) (σ : mS) : ev 12 3 (a0 :: a1 :: some (.int y) :: o :: ls) (.int x :: st) σ = ev 12 4 (a0 :: a1 :: some (.int y) :: some (.int x) :: ls) st σ := e_istore1 k12_3 (Nat.le_add_left 4 ls.length)
theorem e12_3n (a0 a1 : Option Value) (o : Option Value) (x : Int32) (ls : mL) (st : List Value) (σ : mS) : ev 12 3 (a0 :: a1 :: none :: o :: ls) (.int x :: st) σ = ev 12 4 (a0 :: a1 :: none :: some (.int x) :: ls) st σ := e_istore1 k12_3 (Nat.le_add_left 4 ls.length)
theorem e12_3r (a0 a1 : Option Value) (y : Nat) (o : Option Value) (x : Int32) (ls : mL) (st : List Value) (σ : mS) : ev 12 3 (a0 :: a1 :: some (.ref y) :: o :: ls) (.int x :: st) σ = ev 12 4 (a0 :: a1 :: some (.ref y) :: some (.int x) :: ls) st σ := e_istore1 k12_3 (Nat.le_add_left 4 ls.length)
theorem k12_4 : cod 12 4 = some (.iload_n 3, 1, 0, 0, 0, 0) := rfl
theorem e12_4 (a0 a1 a2 : Option Value) (x : Int32) (ls : mL) (st : List Value) (σ : mS) : ev 12 4 (a0 :: a1 :: a2 :: some (.int x) :: ls) st σ = ev 12 5 (a0 :: a1 :: a2 :: some (.int x) :: ls) (.int x :: st) σ := e_iload1 k12_4 rfl
theorem k12_5 : cod 12 5 = some (.bipush (20), 2, 0, 0, 0, 0) := rfl
theorem e12_5 (ls : mL) (st : List Value) (σ : mS) : ev 12 5 ls st σ = ev 12 7 ls (.int 20 :: st) σ := e_bipush 20 k12_5 (by decide)
theorem k12_7 : cod 12 7 = some (.if_icmp .ge (40), 3, 47, 0, 0, 0) := rfl
theorem e12_7 (x y : Int32) (ls : mL) (st : List Value) (σ : mS) : ev 12 7 ls (.int y :: .int x :: st) σ = if y ≤ x then ev 12 47 ls st σ else ev 12 10 ls st σ := e_ic_ge k12_7
theorem k12_10 : cod 12 10 = some (.aload_n 0, 1, 0, 0, 0, 0) := rfl
theorem e12_10 (x : Nat) (ls : mL) (st : List Value) (σ : mS) : ev 12 10 (some (.ref x) :: ls) st σ = ev 12 11 (some (.ref x) :: ls) (.ref x :: st) σ := e_aload1 k12_10 rfl
theorem k12_11 : cod 12 11 = some (.getfield 23, 3, 0, 2, 0, 3) := rfl
theorem e12_11 (t : Nat) (ls : mL) (st : List Value) (σ : mS) : ev 12 11 ls (.ref t :: st) σ = gfK (σ.1 t) 0 2 (fun v => ev 12 14 ls (v :: st) σ) := e_getf k12_11
theorem k12_14 : cod 12 14 = some (.iload_n 2, 1, 0, 0, 0, 0) := rfl
theorem e12_14 (a0 a1 : Option Value) (x : Int32) (ls : mL) (st : List Value) (σ : mS) : ev 12 14 (a0 :: a1 :: some (.int x) :: ls) st σ = ev 12 15 (a0 :: a1 :: some (.int x) :: ls) (.int x :: st) σ := e_iload1 k12_14 rfl
theorem k12_15 : cod 12 15 = some (.invokevirtual 48, 3, 37, 1, 0, 3) := rfl
theorem e12_15 (t : Nat) (x0 : Int32) (ls : mL) (st : List Value) (σ : mS) (hm : mCat st ≤ 8) : ev 12 15 ls (.int x0 :: .ref t :: st) σ = isC (σ.1 t) 3 ((evM 37 [.ref t, .int x0] σ).bind fun z => ev 12 18 ls (z.1.toList ++ st) z.2) := e_callVK k12_15 (by decide) rfl ⟨hm, Nat.le_of_ble_eq_true rfl⟩
theorem k12_18 : cod 12 18 = some (.ifCond .eq (29), 3, 47, 0, 0, 0) := rfl
theorem e12_18 (x : Int32) (ls : mL) (st : List Value) (σ : mS) : ev 12 18 ls (.int x :: st) σ = if x = 0 then ev 12 47 ls st σ else ev 12 21 ls st σ := e_if_eq k12_18
theorem k12_21 : cod 12 21 = some (.aload_n 0, 1, 0, 0, 0, 0) := rfl
theorem e12_21 (x : Nat) (ls : mL) (st : List Value) (σ : mS) : ev 12 21 (some (.ref x) :: ls) st σ = ev 12 22 (some (.ref x) :: ls) (.ref x :: st) σ := e_aload1 k12_21 rfl
theorem k12_22 : cod 12 22 = some (.getfield 23, 3, 0, 2, 0, 3) := rfl
theorem e12_22 (t : Nat) (ls : mL) (st : List Value) (σ : mS) : ev 12 22 ls (.ref t :: st) σ = gfK (σ.1 t) 0 2 (fun v => ev 12 25 ls (v :: st) σ) := e_getf k12_22
theorem k12_25 : cod 12 25 = some (.iload_n 2, 1, 0, 0, 0, 0) := rfl
theorem e12_25 (a0 a1 : Option Value) (x : Int32) (ls : mL) (st : List Value) (σ : mS) : ev 12 25 (a0 :: a1 :: some (.int x) :: ls) st σ = ev 12 26 (a0 :: a1 :: some (.int x) :: ls) (.int x :: st) σ := e_iload1 k12_25 rfl
theorem k12_26 : cod 12 26 = some (.iconst 2, 1, 0, 0, 0, 0) := rfl
theorem e12_26 (ls : mL) (st : List Value) (σ : mS) : ev 12 26 ls st σ = ev 12 27 ls (.int 2 :: st) σ := e_iconst 2 k12_26 (by decide)
theorem k12_27 : cod 12 27 = some (.iconst (-1), 1, 0, 0, 0, 0) := rfl
theorem e12_27 (ls : mL) (st : List Value) (σ : mS) : ev 12 27 ls st σ = ev 12 28 ls (.int (-1) :: st) σ := e_iconst (-1) k12_27 (by decide)
theorem k12_28 : cod 12 28 = some (.invokevirtual 45, 3, 39, 3, 0, 3) := rfl
theorem e12_28 (t : Nat) (x0 : Int32) (x1 : Int32) (x2 : Int32) (ls : mL) (st : List Value) (σ : mS) (hm : mCat st ≤ 8) : ev 12 28 ls (.int x2 :: .int x1 :: .int x0 :: .ref t :: st) σ = isC (σ.1 t) 3 ((evM 39 [.ref t, .int x0, .int x1, .int x2] σ).bind fun z => ev 12 31 ls (z.1.toList ++ st) z.2) := e_callVK k12_28 (by decide) rfl ⟨hm, Nat.le_of_ble_eq_true rfl⟩
theorem k12_31 : cod 12 31 = some (.aload_n 0, 1, 0, 0, 0, 0) := rfl
theorem e12_31 (x : Nat) (ls : mL) (st : List Value) (σ : mS) : ev 12 31 (some (.ref x) :: ls) st σ = ev 12 32 (some (.ref x) :: ls) (.ref x :: st) σ := e_aload1 k12_31 rfl
theorem k12_32 : cod 12 32 = some (.getfield 23, 3, 0, 2, 0, 3) := rfl
theorem e12_32 (t : Nat) (ls : mL) (st : List Value) (σ : mS) : ev 12 32 ls (.ref t :: st) σ = gfK (σ.1 t) 0 2 (fun v => ev 12 35 ls (v :: st) σ) := e_getf k12_32
theorem k12_35 : cod 12 35 = some (.iload_n 2, 1, 0, 0, 0, 0) := rfl
theorem e12_35 (a0 a1 : Option Value) (x : Int32) (ls : mL) (st : List Value) (σ : mS) : ev 12 35 (a0 :: a1 :: some (.int x) :: ls) st σ = ev 12 36 (a0 :: a1 :: some (.int x) :: ls) (.int x :: st) σ := e_iload1 k12_35 rfl
theorem k12_36 : cod 12 36 = some (.iconst 4, 1, 0, 0, 0, 0) := rfl
theorem e12_36 (ls : mL) (st : List Value) (σ : mS) : ev 12 36 ls st σ = ev 12 37 ls (.int 4 :: st) σ := e_iconst 4 k12_36 (by decide)
theorem k12_37 : cod 12 37 = some (.invokevirtual 52, 3, 38, 2, 0, 3) := rfl
theorem e12_37 (t : Nat) (x0 : Int32) (x1 : Int32) (ls : mL) (st : List Value) (σ : mS) (hm : mCat st ≤ 8) : ev 12 37 ls (.int x1 :: .int x0 :: .ref t :: st) σ = isC (σ.1 t) 3 ((evM 38 [.ref t, .int x0, .int x1] σ).bind fun z => ev 12 40 ls (z.1.toList ++ st) z.2) := e_callVK k12_37 (by decide) rfl ⟨hm, Nat.le_of_ble_eq_true rfl⟩
theorem k12_40 : cod 12 40 = some (.istore_n 2, 1, 0, 0, 0, 0) := rfl
theorem e12_40i (a0 : Option Value) (y : Int32) (o : Option Value) (x : Int32) (ls : mL) (st : List Value) (σ : mS) : ev 12 40 (a0 :: some (.int y) :: o :: ls) (.int x :: st) σ = ev 12 41 (a0 :: some (.int y) :: some (.int x) :: ls) st σ := e_istore1 k12_40 (Nat.le_add_left 3 ls.length)
theorem e12_40n (a0 : Option Value) (o : Option Value) (x : Int32) (ls : mL) (st : List Value) (σ : mS) : ev 12 40 (a0 :: none :: o :: ls) (.int x :: st) σ = ev 12 41 (a0 :: none :: some (.int x) :: ls) st σ := e_istore1 k12_40 (Nat.le_add_left 3 ls.length)
theorem e12_40r (a0 : Option Value) (y : Nat) (o : Option Value) (x : Int32) (ls : mL) (st : List Value) (σ : mS) : ev 12 40 (a0 :: some (.ref y) :: o :: ls) (.int x :: st) σ = ev 12 41 (a0 :: some (.ref y) :: some (.int x) :: ls) st σ := e_istore1 k12_40 (Nat.le_add_left 3 ls.length)
theorem k12_41 : cod 12 41 = some (.iinc 3 (1), 3, 0, 0, 0, 0) := rfl
theorem e12_41i (a0 a1 : Option Value) (y : Int32) (x : Int32) (ls : mL) (st : List Value) (σ : mS) : ev 12 41 (a0 :: a1 :: some (.int y) :: some (.int x) :: ls) st σ = ev 12 44 (a0 :: a1 :: some (.int y) :: some (.int (x + 1)) :: ls) st σ := e_iinc 1 k12_41 (by decide) rfl
theorem e12_41n (a0 a1 : Option Value) (x : Int32) (ls : mL) (st : List Value) (σ : mS) : ev 12 41 (a0 :: a1 :: none :: some (.int x) :: ls) st σ = ev 12 44 (a0 :: a1 :: none :: some (.int (x + 1)) :: ls) st σ := e_iinc 1 k12_41 (by decide) rfl
theorem e12_41r (a0 a1 : Option Value) (y : Nat) (x : Int32) (ls : mL) (st : List Value) (σ : mS) : ev 12 41 (a0 :: a1 :: some (.ref y) :: some (.int x) :: ls) st σ = ev 12 44 (a0 :: a1 :: some (.ref y) :: some (.int (x + 1)) :: ls) st σ := e_iinc 1 k12_41 (by decide) rfl
theorem k12_44 : cod 12 44 = some (.goto (-40), 3, 4, 0, 0, 0) := rfl
theorem e12_44 (ls : mL) (st : List Value) (σ : mS) : ev 12 44 ls st σ = ev 12 4 ls st σ := e_goto k12_44
theorem k12_47 : cod 12 47 = some (.return_, 1, 0, 0, 0, 0) := rfl
theorem e12_47 (ls : mL) (σ : mS) : ev 12 47 ls [] σ = some (none, σ) := e_vret k12_47 rfl
theorem m12 (t : Nat) (x0 : Int32) (σ : mS) : evM 12 [.ref t, .int x0] σ = ev 12 0 [some (.ref t), some (.int x0), none, none] [] σ := rfl
theorem k13_0 : cod 13 0 = some (.iload_n 1, 1, 0, 0, 0, 0) := rfl
theorem e13_0 (a0 : Option Value) (x : Int32) (ls : mL) (st : List Value) (σ : mS) : ev 13 0 (a0 :: some (.int x) :: ls) st σ = ev 13 1 (a0 :: some (.int x) :: ls) (.int x :: st) σ := e_iload1 k13_0 rfl
theorem k13_1 : cod 13 1 = some (.istore_n 3, 1, 0, 0, 0, 0) := rfl
theorem e13_1i (a0 a1 : Option Value) (y : Int32) (o : Option Value) (x : Int32) (ls : mL) (st : List Value) (σ : mS) : ev 13 1 (a0 :: a1 :: some (.int y) :: o :: ls) (.int x :: st) σ = ev 13 2 (a0 :: a1 :: some (.int y) :: some (.int x) :: ls) st σ := e_istore1 k13_1 (Nat.le_add_left 4 ls.length)
theorem e13_1n (a0 a1 : Option Value) (o : Option Value) (x : Int32) (ls : mL) (st : List Value) (σ : mS) : ev 13 1 (a0 :: a1 :: none :: o :: ls) (.int x :: st) σ = ev 13 2 (a0 :: a1 :: none :: some (.int x) :: ls) st σ := e_istore1 k13_1 (Nat.le_add_left 4 ls.length)
theorem e13_1r (a0 a1 : Option Value) (y : Nat) (o : Option Value) (x : Int32) (ls : mL) (st : List Value) (σ : mS) : ev 13 1 (a0 :: a1 :: some (.ref y) :: o :: ls) (.int x :: st) σ = ev 13 2 (a0 :: a1 :: some (.ref y) :: some (.int x) :: ls) st σ := e_istore1 k13_1 (Nat.le_add_left 4 ls.length)
theorem k13_2 : cod 13 2 = some (.iconst 0, 1, 0, 0, 0, 0) := rfl
theorem e13_2 (ls : mL) (st : List Value) (σ : mS) : ev 13 2 ls st σ = ev 13 3 ls (.int 0 :: st) σ := e_iconst 0 k13_2 (by decide)
theorem k13_3 : cod 13 3 = some (.istore 4, 2, 0, 0, 0, 0) := rfl
theorem e13_3i (a0 a1 a2 : Option Value) (y : Int32) (o : Option Value) (x : Int32) (ls : mL) (st : List Value) (σ : mS) : ev 13 3 (a0 :: a1 :: a2 :: some (.int y) :: o :: ls) (.int x :: st) σ = ev 13 5 (a0 :: a1 :: a2 :: some (.int y) :: some (.int x) :: ls) st σ := e_istore0 k13_3 (Nat.le_add_left 5 ls.length)
theorem e13_3n (a0 a1 a2 : Option Value) (o : Option Value) (x : Int32) (ls : mL) (st : List Value) (σ : mS) : ev 13 3 (a0 :: a1 :: a2 :: none :: o :: ls) (.int x :: st) σ = ev 13 5 (a0 :: a1 :: a2 :: none :: some (.int x) :: ls) st σ := e_istore0 k13_3 (Nat.le_add_left 5 ls.length)
theorem e13_3r (a0 a1 a2 : Option Value) (y : Nat) (o : Option Value) (x : Int32) (ls : mL) (st : List Value) (σ : mS) : ev 13 3 (a0 :: a1 :: a2 :: some (.ref y) :: o :: ls) (.int x :: st) σ = ev 13 5 (a0 :: a1 :: a2 :: some (.ref y) :: some (.int x) :: ls) st σ := e_istore0 k13_3 (Nat.le_add_left 5 ls.length)
theorem k13_5 : cod 13 5 = some (.iload 4, 2, 0, 0, 0, 0) := rfl
theorem e13_5 (a0 a1 a2 a3 : Option Value) (x : Int32) (ls : mL) (st : List Value) (σ : mS) : ev 13 5 (a0 :: a1 :: a2 :: a3 :: some (.int x) :: ls) st σ = ev 13 7 (a0 :: a1 :: a2 :: a3 :: some (.int x) :: ls) (.int x :: st) σ := e_iload0 k13_5 rfl
theorem k13_7 : cod 13 7 = some (.bipush (8), 2, 0, 0, 0, 0) := rfl
theorem e13_7 (ls : mL) (st : List Value) (σ : mS) : ev 13 7 ls st σ = ev 13 9 ls (.int 8 :: st) σ := e_bipush 8 k13_7 (by decide)
theorem k13_9 : cod 13 9 = some (.if_icmp .ge (40), 3, 49, 0, 0, 0) := rfl
theorem e13_9 (x y : Int32) (ls : mL) (st : List Value) (σ : mS) : ev 13 9 ls (.int y :: .int x :: st) σ = if y ≤ x then ev 13 49 ls st σ else ev 13 12 ls st σ := e_ic_ge k13_9
theorem k13_12 : cod 13 12 = some (.aload_n 0, 1, 0, 0, 0, 0) := rfl
theorem e13_12 (x : Nat) (ls : mL) (st : List Value) (σ : mS) : ev 13 12 (some (.ref x) :: ls) st σ = ev 13 13 (some (.ref x) :: ls) (.ref x :: st) σ := e_aload1 k13_12 rfl
theorem k13_13 : cod 13 13 = some (.getfield 14, 3, 0, 0, 0, 3) := rfl
theorem e13_13 (t : Nat) (ls : mL) (st : List Value) (σ : mS) : ev 13 13 ls (.ref t :: st) σ = gfK (σ.1 t) 0 0 (fun v => ev 13 16 ls (v :: st) σ) := e_getf k13_13
theorem k13_16 : cod 13 16 = some (.iload_n 3, 1, 0, 0, 0, 0) := rfl
theorem e13_16 (a0 a1 a2 : Option Value) (x : Int32) (ls : mL) (st : List Value) (σ : mS) : ev 13 16 (a0 :: a1 :: a2 :: some (.int x) :: ls) st σ = ev 13 17 (a0 :: a1 :: a2 :: some (.int x) :: ls) (.int x :: st) σ := e_iload1 k13_16 rfl
theorem k13_17 : cod 13 17 = some (.invokevirtual 48, 3, 37, 1, 0, 3) := rfl
theorem e13_17 (t : Nat) (x0 : Int32) (ls : mL) (st : List Value) (σ : mS) (hm : mCat st ≤ 8) : ev 13 17 ls (.int x0 :: .ref t :: st) σ = isC (σ.1 t) 3 ((evM 37 [.ref t, .int x0] σ).bind fun z => ev 13 20 ls (z.1.toList ++ st) z.2) := e_callVK k13_17 (by decide) rfl ⟨hm, Nat.le_of_ble_eq_true rfl⟩
theorem k13_20 : cod 13 20 = some (.ifCond .eq (29), 3, 49, 0, 0, 0) := rfl
theorem e13_20 (x : Int32) (ls : mL) (st : List Value) (σ : mS) : ev 13 20 ls (.int x :: st) σ = if x = 0 then ev 13 49 ls st σ else ev 13 23 ls st σ := e_if_eq k13_20
theorem k13_23 : cod 13 23 = some (.aload_n 0, 1, 0, 0, 0, 0) := rfl
theorem e13_23 (x : Nat) (ls : mL) (st : List Value) (σ : mS) : ev 13 23 (some (.ref x) :: ls) st σ = ev 13 24 (some (.ref x) :: ls) (.ref x :: st) σ := e_aload1 k13_23 rfl
theorem k13_24 : cod 13 24 = some (.getfield 14, 3, 0, 0, 0, 3) := rfl
theorem e13_24 (t : Nat) (ls : mL) (st : List Value) (σ : mS) : ev 13 24 ls (.ref t :: st) σ = gfK (σ.1 t) 0 0 (fun v => ev 13 27 ls (v :: st) σ) := e_getf k13_24
theorem k13_27 : cod 13 27 = some (.iload_n 3, 1, 0, 0, 0, 0) := rfl
theorem e13_27 (a0 a1 a2 : Option Value) (x : Int32) (ls : mL) (st : List Value) (σ : mS) : ev 13 27 (a0 :: a1 :: a2 :: some (.int x) :: ls) st σ = ev 13 28 (a0 :: a1 :: a2 :: some (.int x) :: ls) (.int x :: st) σ := e_iload1 k13_27 rfl
theorem k13_28 : cod 13 28 = some (.iconst 2, 1, 0, 0, 0, 0) := rfl
theorem e13_28 (ls : mL) (st : List Value) (σ : mS) : ev 13 28 ls st σ = ev 13 29 ls (.int 2 :: st) σ := e_iconst 2 k13_28 (by decide)
theorem k13_29 : cod 13 29 = some (.iload_n 2, 1, 0, 0, 0, 0) := rfl
theorem e13_29 (a0 a1 : Option Value) (x : Int32) (ls : mL) (st : List Value) (σ : mS) : ev 13 29 (a0 :: a1 :: some (.int x) :: ls) st σ = ev 13 30 (a0 :: a1 :: some (.int x) :: ls) (.int x :: st) σ := e_iload1 k13_29 rfl
theorem k13_30 : cod 13 30 = some (.invokevirtual 45, 3, 39, 3, 0, 3) := rfl
theorem e13_30 (t : Nat) (x0 : Int32) (x1 : Int32) (x2 : Int32) (ls : mL) (st : List Value) (σ : mS) (hm : mCat st ≤ 8) : ev 13 30 ls (.int x2 :: .int x1 :: .int x0 :: .ref t :: st) σ = isC (σ.1 t) 3 ((evM 39 [.ref t, .int x0, .int x1, .int x2] σ).bind fun z => ev 13 33 ls (z.1.toList ++ st) z.2) := e_callVK k13_30 (by decide) rfl ⟨hm, Nat.le_of_ble_eq_true rfl⟩
theorem k13_33 : cod 13 33 = some (.aload_n 0, 1, 0, 0, 0, 0) := rfl
theorem e13_33 (x : Nat) (ls : mL) (st : List Value) (σ : mS) : ev 13 33 (some (.ref x) :: ls) st σ = ev 13 34 (some (.ref x) :: ls) (.ref x :: st) σ := e_aload1 k13_33 rfl
theorem k13_34 : cod 13 34 = some (.getfield 14, 3, 0, 0, 0, 3) := rfl
theorem e13_34 (t : Nat) (ls : mL) (st : List Value) (σ : mS) : ev 13 34 ls (.ref t :: st) σ = gfK (σ.1 t) 0 0 (fun v => ev 13 37 ls (v :: st) σ) := e_getf k13_34
theorem k13_37 : cod 13 37 = some (.iload_n 3, 1, 0, 0, 0, 0) := rfl
theorem e13_37 (a0 a1 a2 : Option Value) (x : Int32) (ls : mL) (st : List Value) (σ : mS) : ev 13 37 (a0 :: a1 :: a2 :: some (.int x) :: ls) st σ = ev 13 38 (a0 :: a1 :: a2 :: some (.int x) :: ls) (.int x :: st) σ := e_iload1 k13_37 rfl
theorem k13_38 : cod 13 38 = some (.iconst 0, 1, 0, 0, 0, 0) := rfl
theorem e13_38 (ls : mL) (st : List Value) (σ : mS) : ev 13 38 ls st σ = ev 13 39 ls (.int 0 :: st) σ := e_iconst 0 k13_38 (by decide)
theorem k13_39 : cod 13 39 = some (.invokevirtual 52, 3, 38, 2, 0, 3) := rfl
theorem e13_39 (t : Nat) (x0 : Int32) (x1 : Int32) (ls : mL) (st : List Value) (σ : mS) (hm : mCat st ≤ 8) : ev 13 39 ls (.int x1 :: .int x0 :: .ref t :: st) σ = isC (σ.1 t) 3 ((evM 38 [.ref t, .int x0, .int x1] σ).bind fun z => ev 13 42 ls (z.1.toList ++ st) z.2) := e_callVK k13_39 (by decide) rfl ⟨hm, Nat.le_of_ble_eq_true rfl⟩
theorem k13_42 : cod 13 42 = some (.istore_n 3, 1, 0, 0, 0, 0) := rfl
theorem e13_42i (a0 a1 : Option Value) (y : Int32) (o : Option Value) (x : Int32) (ls : mL) (st : List Value) (σ : mS) : ev 13 42 (a0 :: a1 :: some (.int y) :: o :: ls) (.int x :: st) σ = ev 13 43 (a0 :: a1 :: some (.int y) :: some (.int x) :: ls) st σ := e_istore1 k13_42 (Nat.le_add_left 4 ls.length)
theorem e13_42n (a0 a1 : Option Value) (o : Option Value) (x : Int32) (ls : mL) (st : List Value) (σ : mS) : ev 13 42 (a0 :: a1 :: none :: o :: ls) (.int x :: st) σ = ev 13 43 (a0 :: a1 :: none :: some (.int x) :: ls) st σ := e_istore1 k13_42 (Nat.le_add_left 4 ls.length)
theorem e13_42r (a0 a1 : Option Value) (y : Nat) (o : Option Value) (x : Int32) (ls : mL) (st : List Value) (σ : mS) : ev 13 42 (a0 :: a1 :: some (.ref y) :: o :: ls) (.int x :: st) σ = ev 13 43 (a0 :: a1 :: some (.ref y) :: some (.int x) :: ls) st σ := e_istore1 k13_42 (Nat.le_add_left 4 ls.length)
theorem k13_43 : cod 13 43 = some (.iinc 4 (1), 3, 0, 0, 0, 0) := rfl
theorem e13_43i (a0 a1 a2 : Option Value) (y : Int32) (x : Int32) (ls : mL) (st : List Value) (σ : mS) : ev 13 43 (a0 :: a1 :: a2 :: some (.int y) :: some (.int x) :: ls) st σ = ev 13 46 (a0 :: a1 :: a2 :: some (.int y) :: some (.int (x + 1)) :: ls) st σ := e_iinc 1 k13_43 (by decide) rfl
theorem e13_43n (a0 a1 a2 : Option Value) (x : Int32) (ls : mL) (st : List Value) (σ : mS) : ev 13 43 (a0 :: a1 :: a2 :: none :: some (.int x) :: ls) st σ = ev 13 46 (a0 :: a1 :: a2 :: none :: some (.int (x + 1)) :: ls) st σ := e_iinc 1 k13_43 (by decide) rfl
theorem e13_43r (a0 a1 a2 : Option Value) (y : Nat) (x : Int32) (ls : mL) (st : List Value) (σ : mS) : ev 13 43 (a0 :: a1 :: a2 :: some (.ref y) :: some (.int x) :: ls) st σ = ev 13 46 (a0 :: a1 :: a2 :: some (.ref y) :: some (.int (x + 1)) :: ls) st σ := e_iinc 1 k13_43 (by decide) rfl
theorem k13_46 : cod 13 46 = some (.goto (-41), 3, 5, 0, 0, 0) := rfl
theorem e13_46 (ls : mL) (st : List Value) (σ : mS) : ev 13 46 ls st σ = ev 13 5 ls st σ := e_goto k13_46
theorem k13_49 : cod 13 49 = some (.return_, 1, 0, 0, 0, 0) := rfl
theorem e13_49 (ls : mL) (σ : mS) : ev 13 49 ls [] σ = some (none, σ) := e_vret k13_49 rfl
theorem m13 (t : Nat) (x0 : Int32) (x1 : Int32) (σ : mS) : evM 13 [.ref t, .int x0, .int x1] σ = ev 13 0 [some (.ref t), some (.int x0), some (.int x1), none, none] [] σ := rfl
theorem k14_0 : cod 14 0 = some (.bipush (-9), 2, 0, 0, 0, 0) := rfl
theorem e14_0 (ls : mL) (st : List Value) (σ : mS) : ev 14 0 ls st σ = ev 14 2 ls (.int (-9) :: st) σ := e_bipush (-9) k14_0 (by decide)
theorem k14_2 : cod 14 2 = some (.istore_n 2, 1, 0, 0, 0, 0) := rfl
theorem e14_2i (a0 : Option Value) (y : Int32) (o : Option Value) (x : Int32) (ls : mL) (st : List Value) (σ : mS) : ev 14 2 (a0 :: some (.int y) :: o :: ls) (.int x :: st) σ = ev 14 3 (a0 :: some (.int y) :: some (.int x) :: ls) st σ := e_istore1 k14_2 (Nat.le_add_left 3 ls.length)
theorem e14_2n (a0 : Option Value) (o : Option Value) (x : Int32) (ls : mL) (st : List Value) (σ : mS) : ev 14 2 (a0 :: none :: o :: ls) (.int x :: st) σ = ev 14 3 (a0 :: none :: some (.int x) :: ls) st σ := e_istore1 k14_2 (Nat.le_add_left 3 ls.length)
theorem e14_2r (a0 : Option Value) (y : Nat) (o : Option Value) (x : Int32) (ls : mL) (st : List Value) (σ : mS) : ev 14 2 (a0 :: some (.ref y) :: o :: ls) (.int x :: st) σ = ev 14 3 (a0 :: some (.ref y) :: some (.int x) :: ls) st σ := e_istore1 k14_2 (Nat.le_add_left 3 ls.length)
theorem k14_3 : cod 14 3 = some (.iconst 0, 1, 0, 0, 0, 0) := rfl
theorem e14_3 (ls : mL) (st : List Value) (σ : mS) : ev 14 3 ls st σ = ev 14 4 ls (.int 0 :: st) σ := e_iconst 0 k14_3 (by decide)
theorem k14_4 : cod 14 4 = some (.istore_n 3, 1, 0, 0, 0, 0) := rfl
theorem e14_4i (a0 a1 : Option Value) (y : Int32) (o : Option Value) (x : Int32) (ls : mL) (st : List Value) (σ : mS) : ev 14 4 (a0 :: a1 :: some (.int y) :: o :: ls) (.int x :: st) σ = ev 14 5 (a0 :: a1 :: some (.int y) :: some (.int x) :: ls) st σ := e_istore1 k14_4 (Nat.le_add_left 4 ls.length)
theorem e14_4n (a0 a1 : Option Value) (o : Option Value) (x : Int32) (ls : mL) (st : List Value) (σ : mS) : ev 14 4 (a0 :: a1 :: none :: o :: ls) (.int x :: st) σ = ev 14 5 (a0 :: a1 :: none :: some (.int x) :: ls) st σ := e_istore1 k14_4 (Nat.le_add_left 4 ls.length)
theorem e14_4r (a0 a1 : Option Value) (y : Nat) (o : Option Value) (x : Int32) (ls : mL) (st : List Value) (σ : mS) : ev 14 4 (a0 :: a1 :: some (.ref y) :: o :: ls) (.int x :: st) σ = ev 14 5 (a0 :: a1 :: some (.ref y) :: some (.int x) :: ls) st σ := e_istore1 k14_4 (Nat.le_add_left 4 ls.length)
theorem k14_5 : cod 14 5 = some (.iload_n 3, 1, 0, 0, 0, 0) := rfl
theorem e14_5 (a0 a1 a2 : Option Value) (x : Int32) (ls : mL) (st : List Value) (σ : mS) : ev 14 5 (a0 :: a1 :: a2 :: some (.int x) :: ls) st σ = ev 14 6 (a0 :: a1 :: a2 :: some (.int x) :: ls) (.int x :: st) σ := e_iload1 k14_5 rfl
theorem k14_6 : cod 14 6 = some (.bipush (60), 2, 0, 0, 0, 0) := rfl
theorem e14_6 (ls : mL) (st : List Value) (σ : mS) : ev 14 6 ls st σ = ev 14 8 ls (.int 60 :: st) σ := e_bipush 60 k14_6 (by decide)
theorem k14_8 : cod 14 8 = some (.if_icmp .ge (39), 3, 47, 0, 0, 0) := rfl
theorem e14_8 (x y : Int32) (ls : mL) (st : List Value) (σ : mS) : ev 14 8 ls (.int y :: .int x :: st) σ = if y ≤ x then ev 14 47 ls st σ else ev 14 11 ls st σ := e_ic_ge k14_8
theorem k14_11 : cod 14 11 = some (.iload_n 3, 1, 0, 0, 0, 0) := rfl
theorem e14_11 (a0 a1 a2 : Option Value) (x : Int32) (ls : mL) (st : List Value) (σ : mS) : ev 14 11 (a0 :: a1 :: a2 :: some (.int x) :: ls) st σ = ev 14 12 (a0 :: a1 :: a2 :: some (.int x) :: ls) (.int x :: st) σ := e_iload1 k14_11 rfl
theorem k14_12 : cod 14 12 = some (.aload_n 0, 1, 0, 0, 0, 0) := rfl
theorem e14_12 (x : Nat) (ls : mL) (st : List Value) (σ : mS) : ev 14 12 (some (.ref x) :: ls) st σ = ev 14 13 (some (.ref x) :: ls) (.ref x :: st) σ := e_aload1 k14_12 rfl
theorem k14_13 : cod 14 13 = some (.getfield 26, 3, 0, 3, 0, 3) := rfl
theorem e14_13 (t : Nat) (ls : mL) (st : List Value) (σ : mS) : ev 14 13 ls (.ref t :: st) σ = gfK (σ.1 t) 0 3 (fun v => ev 14 16 ls (v :: st) σ) := e_getf k14_13
theorem k14_16 : cod 14 16 = some (.getfield 66, 3, 3, 3, 1, 0) := rfl
theorem e14_16 (t : Nat) (ls : mL) (st : List Value) (σ : mS) : ev 14 16 ls (.ref t :: st) σ = gfK (σ.1 t) 3 3 (fun v => ev 14 19 ls (v :: st) σ) := e_getf k14_16
theorem k14_19 : cod 14 19 = some (.if_icmp .ge (28), 3, 47, 0, 0, 0) := rfl
theorem e14_19 (x y : Int32) (ls : mL) (st : List Value) (σ : mS) : ev 14 19 ls (.int y :: .int x :: st) σ = if y ≤ x then ev 14 47 ls st σ else ev 14 22 ls st σ := e_ic_ge k14_19
theorem k14_22 : cod 14 22 = some (.aload_n 0, 1, 0, 0, 0, 0) := rfl
theorem e14_22 (x : Nat) (ls : mL) (st : List Value) (σ : mS) : ev 14 22 (some (.ref x) :: ls) st σ = ev 14 23 (some (.ref x) :: ls) (.ref x :: st) σ := e_aload1 k14_22 rfl
theorem k14_23 : cod 14 23 = some (.getfield 26, 3, 0, 3, 0, 3) := rfl
theorem e14_23 (t : Nat) (ls : mL) (st : List Value) (σ : mS) : ev 14 23 ls (.ref t :: st) σ = gfK (σ.1 t) 0 3 (fun v => ev 14 26 ls (v :: st) σ) := e_getf k14_23
theorem k14_26 : cod 14 26 = some (.iload_n 3, 1, 0, 0, 0, 0) := rfl
theorem e14_26 (a0 a1 a2 : Option Value) (x : Int32) (ls : mL) (st : List Value) (σ : mS) : ev 14 26 (a0 :: a1 :: a2 :: some (.int x) :: ls) st σ = ev 14 27 (a0 :: a1 :: a2 :: some (.int x) :: ls) (.int x :: st) σ := e_iload1 k14_26 rfl
theorem k14_27 : cod 14 27 = some (.iconst 1, 1, 0, 0, 0, 0) := rfl
theorem e14_27 (ls : mL) (st : List Value) (σ : mS) : ev 14 27 ls st σ = ev 14 28 ls (.int 1 :: st) σ := e_iconst 1 k14_27 (by decide)
theorem k14_28 : cod 14 28 = some (.invokevirtual 52, 3, 38, 2, 0, 3) := rfl
theorem e14_28 (t : Nat) (x0 : Int32) (x1 : Int32) (ls : mL) (st : List Value) (σ : mS) (hm : mCat st ≤ 8) : ev 14 28 ls (.int x1 :: .int x0 :: .ref t :: st) σ = isC (σ.1 t) 3 ((evM 38 [.ref t, .int x0, .int x1] σ).bind fun z => ev 14 31 ls (z.1.toList ++ st) z.2) := e_callVK k14_28 (by decide) rfl ⟨hm, Nat.le_of_ble_eq_true rfl⟩
theorem k14_31 : cod 14 31 = some (.iload_n 1, 1, 0, 0, 0, 0) := rfl
theorem e14_31 (a0 : Option Value) (x : Int32) (ls : mL) (st : List Value) (σ : mS) : ev 14 31 (a0 :: some (.int x) :: ls) st σ = ev 14 32 (a0 :: some (.int x) :: ls) (.int x :: st) σ := e_iload1 k14_31 rfl
theorem k14_32 : cod 14 32 = some (.if_icmp .ne (7), 3, 39, 0, 0, 0) := rfl
theorem e14_32 (x y : Int32) (ls : mL) (st : List Value) (σ : mS) : ev 14 32 ls (.int y :: .int x :: st) σ = if x = y then ev 14 35 ls st σ else ev 14 39 ls st σ := e_ic_ne k14_32
theorem k14_35 : cod 14 35 = some (.iload_n 3, 1, 0, 0, 0, 0) := rfl
theorem e14_35 (a0 a1 a2 : Option Value) (x : Int32) (ls : mL) (st : List Value) (σ : mS) : ev 14 35 (a0 :: a1 :: a2 :: some (.int x) :: ls) st σ = ev 14 36 (a0 :: a1 :: a2 :: some (.int x) :: ls) (.int x :: st) σ := e_iload1 k14_35 rfl
theorem k14_36 : cod 14 36 = some (.goto (4), 3, 40, 0, 0, 0) := rfl
theorem e14_36 (ls : mL) (st : List Value) (σ : mS) : ev 14 36 ls st σ = ev 14 40 ls st σ := e_goto k14_36
theorem k14_39 : cod 14 39 = some (.iload_n 2, 1, 0, 0, 0, 0) := rfl
theorem e14_39 (a0 a1 : Option Value) (x : Int32) (ls : mL) (st : List Value) (σ : mS) : ev 14 39 (a0 :: a1 :: some (.int x) :: ls) st σ = ev 14 40 (a0 :: a1 :: some (.int x) :: ls) (.int x :: st) σ := e_iload1 k14_39 rfl
theorem k14_40 : cod 14 40 = some (.istore_n 2, 1, 0, 0, 0, 0) := rfl
theorem e14_40i (a0 : Option Value) (y : Int32) (o : Option Value) (x : Int32) (ls : mL) (st : List Value) (σ : mS) : ev 14 40 (a0 :: some (.int y) :: o :: ls) (.int x :: st) σ = ev 14 41 (a0 :: some (.int y) :: some (.int x) :: ls) st σ := e_istore1 k14_40 (Nat.le_add_left 3 ls.length)
theorem e14_40n (a0 : Option Value) (o : Option Value) (x : Int32) (ls : mL) (st : List Value) (σ : mS) : ev 14 40 (a0 :: none :: o :: ls) (.int x :: st) σ = ev 14 41 (a0 :: none :: some (.int x) :: ls) st σ := e_istore1 k14_40 (Nat.le_add_left 3 ls.length)
theorem e14_40r (a0 : Option Value) (y : Nat) (o : Option Value) (x : Int32) (ls : mL) (st : List Value) (σ : mS) : ev 14 40 (a0 :: some (.ref y) :: o :: ls) (.int x :: st) σ = ev 14 41 (a0 :: some (.ref y) :: some (.int x) :: ls) st σ := e_istore1 k14_40 (Nat.le_add_left 3 ls.length)
theorem k14_41 : cod 14 41 = some (.iinc 3 (1), 3, 0, 0, 0, 0) := rfl
theorem e14_41i (a0 a1 : Option Value) (y : Int32) (x : Int32) (ls : mL) (st : List Value) (σ : mS) : ev 14 41 (a0 :: a1 :: some (.int y) :: some (.int x) :: ls) st σ = ev 14 44 (a0 :: a1 :: some (.int y) :: some (.int (x + 1)) :: ls) st σ := e_iinc 1 k14_41 (by decide) rfl
theorem e14_41n (a0 a1 : Option Value) (x : Int32) (ls : mL) (st : List Value) (σ : mS) : ev 14 41 (a0 :: a1 :: none :: some (.int x) :: ls) st σ = ev 14 44 (a0 :: a1 :: none :: some (.int (x + 1)) :: ls) st σ := e_iinc 1 k14_41 (by decide) rfl
theorem e14_41r (a0 a1 : Option Value) (y : Nat) (x : Int32) (ls : mL) (st : List Value) (σ : mS) : ev 14 41 (a0 :: a1 :: some (.ref y) :: some (.int x) :: ls) st σ = ev 14 44 (a0 :: a1 :: some (.ref y) :: some (.int (x + 1)) :: ls) st σ := e_iinc 1 k14_41 (by decide) rfl
theorem k14_44 : cod 14 44 = some (.goto (-39), 3, 5, 0, 0, 0) := rfl
theorem e14_44 (ls : mL) (st : List Value) (σ : mS) : ev 14 44 ls st σ = ev 14 5 ls st σ := e_goto k14_44
theorem k14_47 : cod 14 47 = some (.iload_n 2, 1, 0, 0, 0, 0) := rfl
theorem e14_47 (a0 a1 : Option Value) (x : Int32) (ls : mL) (st : List Value) (σ : mS) : ev 14 47 (a0 :: a1 :: some (.int x) :: ls) st σ = ev 14 48 (a0 :: a1 :: some (.int x) :: ls) (.int x :: st) σ := e_iload1 k14_47 rfl
theorem k14_48 : cod 14 48 = some (.ireturn, 1, 0, 0, 0, 0) := rfl
theorem e14_48 (x : Int32) (ls : mL) (σ : mS) : ev 14 48 ls [.int x] σ = some (some (.int x), σ) := e_iret k14_48 rfl
theorem m14 (t : Nat) (x0 : Int32) (σ : mS) : evM 14 [.ref t, .int x0] σ = ev 14 0 [some (.ref t), some (.int x0), none, none] [] σ := rfl
theorem k15_0 : cod 15 0 = some (.aload_n 0, 1, 0, 0, 0, 0) := rfl
theorem e15_0 (x : Nat) (ls : mL) (st : List Value) (σ : mS) : ev 15 0 (some (.ref x) :: ls) st σ = ev 15 1 (some (.ref x) :: ls) (.ref x :: st) σ := e_aload1 k15_0 rfl
theorem k15_1 : cod 15 1 = some (.getfield 26, 3, 0, 3, 0, 3) := rfl
theorem e15_1 (t : Nat) (ls : mL) (st : List Value) (σ : mS) : ev 15 1 ls (.ref t :: st) σ = gfK (σ.1 t) 0 3 (fun v => ev 15 4 ls (v :: st) σ) := e_getf k15_1
theorem k15_4 : cod 15 4 = some (.iload_n 1, 1, 0, 0, 0, 0) := rfl
theorem e15_4 (a0 : Option Value) (x : Int32) (ls : mL) (st : List Value) (σ : mS) : ev 15 4 (a0 :: some (.int x) :: ls) st σ = ev 15 5 (a0 :: some (.int x) :: ls) (.int x :: st) σ := e_iload1 k15_4 rfl
theorem k15_5 : cod 15 5 = some (.iconst 1, 1, 0, 0, 0, 0) := rfl
theorem e15_5 (ls : mL) (st : List Value) (σ : mS) : ev 15 5 ls st σ = ev 15 6 ls (.int 1 :: st) σ := e_iconst 1 k15_5 (by decide)
theorem k15_6 : cod 15 6 = some (.invokevirtual 52, 3, 38, 2, 0, 3) := rfl
theorem e15_6 (t : Nat) (x0 : Int32) (x1 : Int32) (ls : mL) (st : List Value) (σ : mS) (hm : mCat st ≤ 8) : ev 15 6 ls (.int x1 :: .int x0 :: .ref t :: st) σ = isC (σ.1 t) 3 ((evM 38 [.ref t, .int x0, .int x1] σ).bind fun z => ev 15 9 ls (z.1.toList ++ st) z.2) := e_callVK k15_6 (by decide) rfl ⟨hm, Nat.le_of_ble_eq_true rfl⟩
theorem k15_9 : cod 15 9 = some (.istore_n 2, 1, 0, 0, 0, 0) := rfl
theorem e15_9i (a0 : Option Value) (y : Int32) (o : Option Value) (x : Int32) (ls : mL) (st : List Value) (σ : mS) : ev 15 9 (a0 :: some (.int y) :: o :: ls) (.int x :: st) σ = ev 15 10 (a0 :: some (.int y) :: some (.int x) :: ls) st σ := e_istore1 k15_9 (Nat.le_add_left 3 ls.length)
theorem e15_9n (a0 : Option Value) (o : Option Value) (x : Int32) (ls : mL) (st : List Value) (σ : mS) : ev 15 9 (a0 :: none :: o :: ls) (.int x :: st) σ = ev 15 10 (a0 :: none :: some (.int x) :: ls) st σ := e_istore1 k15_9 (Nat.le_add_left 3 ls.length)
theorem e15_9r (a0 : Option Value) (y : Nat) (o : Option Value) (x : Int32) (ls : mL) (st : List Value) (σ : mS) : ev 15 9 (a0 :: some (.ref y) :: o :: ls) (.int x :: st) σ = ev 15 10 (a0 :: some (.ref y) :: some (.int x) :: ls) st σ := e_istore1 k15_9 (Nat.le_add_left 3 ls.length)
theorem k15_10 : cod 15 10 = some (.aload_n 0, 1, 0, 0, 0, 0) := rfl
theorem e15_10 (x : Nat) (ls : mL) (st : List Value) (σ : mS) : ev 15 10 (some (.ref x) :: ls) st σ = ev 15 11 (some (.ref x) :: ls) (.ref x :: st) σ := e_aload1 k15_10 rfl
theorem k15_11 : cod 15 11 = some (.getfield 20, 3, 0, 1, 0, 3) := rfl
theorem e15_11 (t : Nat) (ls : mL) (st : List Value) (σ : mS) : ev 15 11 ls (.ref t :: st) σ = gfK (σ.1 t) 0 1 (fun v => ev 15 14 ls (v :: st) σ) := e_getf k15_11
theorem k15_14 : cod 15 14 = some (.iload_n 2, 1, 0, 0, 0, 0) := rfl
theorem e15_14 (a0 a1 : Option Value) (x : Int32) (ls : mL) (st : List Value) (σ : mS) : ev 15 14 (a0 :: a1 :: some (.int x) :: ls) st σ = ev 15 15 (a0 :: a1 :: some (.int x) :: ls) (.int x :: st) σ := e_iload1 k15_14 rfl
theorem k15_15 : cod 15 15 = some (.iconst 0, 1, 0, 0, 0, 0) := rfl
theorem e15_15 (ls : mL) (st : List Value) (σ : mS) : ev 15 15 ls st σ = ev 15 16 ls (.int 0 :: st) σ := e_iconst 0 k15_15 (by decide)
theorem k15_16 : cod 15 16 = some (.aload_n 0, 1, 0, 0, 0, 0) := rfl
theorem e15_16 (x : Nat) (ls : mL) (st : List Value) (σ : mS) : ev 15 16 (some (.ref x) :: ls) st σ = ev 15 17 (some (.ref x) :: ls) (.ref x :: st) σ := e_aload1 k15_16 rfl
theorem k15_17 : cod 15 17 = some (.getfield 26, 3, 0, 3, 0, 3) := rfl
theorem e15_17 (t : Nat) (ls : mL) (st : List Value) (σ : mS) : ev 15 17 ls (.ref t :: st) σ = gfK (σ.1 t) 0 3 (fun v => ev 15 20 ls (v :: st) σ) := e_getf k15_17
theorem k15_20 : cod 15 20 = some (.iload_n 1, 1, 0, 0, 0, 0) := rfl
theorem e15_20 (a0 : Option Value) (x : Int32) (ls : mL) (st : List Value) (σ : mS) : ev 15 20 (a0 :: some (.int x) :: ls) st σ = ev 15 21 (a0 :: some (.int x) :: ls) (.int x :: st) σ := e_iload1 k15_20 rfl
theorem k15_21 : cod 15 21 = some (.iconst 4, 1, 0, 0, 0, 0) := rfl
theorem e15_21 (ls : mL) (st : List Value) (σ : mS) : ev 15 21 ls st σ = ev 15 22 ls (.int 4 :: st) σ := e_iconst 4 k15_21 (by decide)
theorem k15_22 : cod 15 22 = some (.invokevirtual 52, 3, 38, 2, 0, 3) := rfl
theorem e15_22 (t : Nat) (x0 : Int32) (x1 : Int32) (ls : mL) (st : List Value) (σ : mS) (hm : mCat st ≤ 8) : ev 15 22 ls (.int x1 :: .int x0 :: .ref t :: st) σ = isC (σ.1 t) 3 ((evM 38 [.ref t, .int x0, .int x1] σ).bind fun z => ev 15 25 ls (z.1.toList ++ st) z.2) := e_callVK k15_22 (by decide) rfl ⟨hm, Nat.le_of_ble_eq_true rfl⟩
theorem k15_25 : cod 15 25 = some (.invokevirtual 41, 3, 35, 3, 0, 3) := rfl
theorem e15_25 (t : Nat) (x0 : Int32) (x1 : Int32) (x2 : Int32) (ls : mL) (st : List Value) (σ : mS) (hm : mCat st ≤ 8) : ev 15 25 ls (.int x2 :: .int x1 :: .int x0 :: .ref t :: st) σ = isC (σ.1 t) 3 ((evM 35 [.ref t, .int x0, .int x1, .int x2] σ).bind fun z => ev 15 28 ls (z.1.toList ++ st) z.2) := e_callVK k15_25 (by decide) rfl ⟨hm, Nat.le_of_ble_eq_true rfl⟩
theorem k15_28 : cod 15 28 = some (.aload_n 0, 1, 0, 0, 0, 0) := rfl
theorem e15_28 (x : Nat) (ls : mL) (st : List Value) (σ : mS) : ev 15 28 (some (.ref x) :: ls) st σ = ev 15 29 (some (.ref x) :: ls) (.ref x :: st) σ := e_aload1 k15_28 rfl
theorem k15_29 : cod 15 29 = some (.aload_n 0, 1, 0, 0, 0, 0) := rfl
theorem e15_29 (x : Nat) (ls : mL) (st : List Value) (σ : mS) : ev 15 29 (some (.ref x) :: ls) st σ = ev 15 30 (some (.ref x) :: ls) (.ref x :: st) σ := e_aload1 k15_29 rfl
theorem k15_30 : cod 15 30 = some (.getfield 20, 3, 0, 1, 0, 3) := rfl
theorem e15_30 (t : Nat) (ls : mL) (st : List Value) (σ : mS) : ev 15 30 ls (.ref t :: st) σ = gfK (σ.1 t) 0 1 (fun v => ev 15 33 ls (v :: st) σ) := e_getf k15_30
theorem k15_33 : cod 15 33 = some (.iload_n 2, 1, 0, 0, 0, 0) := rfl
theorem e15_33 (a0 a1 : Option Value) (x : Int32) (ls : mL) (st : List Value) (σ : mS) : ev 15 33 (a0 :: a1 :: some (.int x) :: ls) st σ = ev 15 34 (a0 :: a1 :: some (.int x) :: ls) (.int x :: st) σ := e_iload1 k15_33 rfl
theorem k15_34 : cod 15 34 = some (.iconst 1, 1, 0, 0, 0, 0) := rfl
theorem e15_34 (ls : mL) (st : List Value) (σ : mS) : ev 15 34 ls st σ = ev 15 35 ls (.int 1 :: st) σ := e_iconst 1 k15_34 (by decide)
theorem k15_35 : cod 15 35 = some (.invokevirtual 52, 3, 38, 2, 0, 3) := rfl
theorem e15_35 (t : Nat) (x0 : Int32) (x1 : Int32) (ls : mL) (st : List Value) (σ : mS) (hm : mCat st ≤ 8) : ev 15 35 ls (.int x1 :: .int x0 :: .ref t :: st) σ = isC (σ.1 t) 3 ((evM 38 [.ref t, .int x0, .int x1] σ).bind fun z => ev 15 38 ls (z.1.toList ++ st) z.2) := e_callVK k15_35 (by decide) rfl ⟨hm, Nat.le_of_ble_eq_true rfl⟩
theorem k15_38 : cod 15 38 = some (.aload_n 0, 1, 0, 0, 0, 0) := rfl
theorem e15_38 (x : Nat) (ls : mL) (st : List Value) (σ : mS) : ev 15 38 (some (.ref x) :: ls) st σ = ev 15 39 (some (.ref x) :: ls) (.ref x :: st) σ := e_aload1 k15_38 rfl
theorem k15_39 : cod 15 39 = some (.getfield 26, 3, 0, 3, 0, 3) := rfl
theorem e15_39 (t : Nat) (ls : mL) (st : List Value) (σ : mS) : ev 15 39 ls (.ref t :: st) σ = gfK (σ.1 t) 0 3 (fun v => ev 15 42 ls (v :: st) σ) := e_getf k15_39
theorem k15_42 : cod 15 42 = some (.iload_n 1, 1, 0, 0, 0, 0) := rfl
theorem e15_42 (a0 : Option Value) (x : Int32) (ls : mL) (st : List Value) (σ : mS) : ev 15 42 (a0 :: some (.int x) :: ls) st σ = ev 15 43 (a0 :: some (.int x) :: ls) (.int x :: st) σ := e_iload1 k15_42 rfl
theorem k15_43 : cod 15 43 = some (.bipush (7), 2, 0, 0, 0, 0) := rfl
theorem e15_43 (ls : mL) (st : List Value) (σ : mS) : ev 15 43 ls st σ = ev 15 45 ls (.int 7 :: st) σ := e_bipush 7 k15_43 (by decide)
theorem k15_45 : cod 15 45 = some (.invokevirtual 52, 3, 38, 2, 0, 3) := rfl
theorem e15_45 (t : Nat) (x0 : Int32) (x1 : Int32) (ls : mL) (st : List Value) (σ : mS) (hm : mCat st ≤ 8) : ev 15 45 ls (.int x1 :: .int x0 :: .ref t :: st) σ = isC (σ.1 t) 3 ((evM 38 [.ref t, .int x0, .int x1] σ).bind fun z => ev 15 48 ls (z.1.toList ++ st) z.2) := e_callVK k15_45 (by decide) rfl ⟨hm, Nat.le_of_ble_eq_true rfl⟩
theorem k15_48 : cod 15 48 = some (.ineg, 1, 0, 0, 0, 0) := rfl
theorem e15_48 (x : Int32) (ls : mL) (st : List Value) (σ : mS) : ev 15 48 ls (.int x :: st) σ = ev 15 49 ls (.int (-x) :: st) σ := e_ineg k15_48
theorem k15_49 : cod 15 49 = some (.invokevirtual 69, 3, 13, 2, 0, 0) := rfl
theorem e15_49 (t : Nat) (x0 : Int32) (x1 : Int32) (ls : mL) (st : List Value) (σ : mS) (hm : mCat st ≤ 8) : ev 15 49 ls (.int x1 :: .int x0 :: .ref t :: st) σ = isC (σ.1 t) 0 ((evM 13 [.ref t, .int x0, .int x1] σ).bind fun z => ev 15 52 ls (z.1.toList ++ st) z.2) := e_callVK k15_49 (by decide) rfl ⟨hm, Nat.le_of_ble_eq_true rfl⟩
theorem k15_52 : cod 15 52 = some (.aload_n 0, 1, 0, 0, 0, 0) := rfl
theorem e15_52 (x : Nat) (ls : mL) (st : List Value) (σ : mS) : ev 15 52 (some (.ref x) :: ls) st σ = ev 15 53 (some (.ref x) :: ls) (.ref x :: st) σ := e_aload1 k15_52 rfl
theorem k15_53 : cod 15 53 = some (.getfield 26, 3, 0, 3, 0, 3) := rfl
theorem e15_53 (t : Nat) (ls : mL) (st : List Value) (σ : mS) : ev 15 53 ls (.ref t :: st) σ = gfK (σ.1 t) 0 3 (fun v => ev 15 56 ls (v :: st) σ) := e_getf k15_53
theorem k15_56 : cod 15 56 = some (.iload_n 1, 1, 0, 0, 0, 0) := rfl
theorem e15_56 (a0 : Option Value) (x : Int32) (ls : mL) (st : List Value) (σ : mS) : ev 15 56 (a0 :: some (.int x) :: ls) st σ = ev 15 57 (a0 :: some (.int x) :: ls) (.int x :: st) σ := e_iload1 k15_56 rfl
theorem k15_57 : cod 15 57 = some (.bipush (8), 2, 0, 0, 0, 0) := rfl
theorem e15_57 (ls : mL) (st : List Value) (σ : mS) : ev 15 57 ls st σ = ev 15 59 ls (.int 8 :: st) σ := e_bipush 8 k15_57 (by decide)
theorem k15_59 : cod 15 59 = some (.iconst 1, 1, 0, 0, 0, 0) := rfl
theorem e15_59 (ls : mL) (st : List Value) (σ : mS) : ev 15 59 ls st σ = ev 15 60 ls (.int 1 :: st) σ := e_iconst 1 k15_59 (by decide)
theorem k15_60 : cod 15 60 = some (.invokevirtual 41, 3, 35, 3, 0, 3) := rfl
theorem e15_60 (t : Nat) (x0 : Int32) (x1 : Int32) (x2 : Int32) (ls : mL) (st : List Value) (σ : mS) (hm : mCat st ≤ 8) : ev 15 60 ls (.int x2 :: .int x1 :: .int x0 :: .ref t :: st) σ = isC (σ.1 t) 3 ((evM 35 [.ref t, .int x0, .int x1, .int x2] σ).bind fun z => ev 15 63 ls (z.1.toList ++ st) z.2) := e_callVK k15_60 (by decide) rfl ⟨hm, Nat.le_of_ble_eq_true rfl⟩
theorem k15_63 : cod 15 63 = some (.return_, 1, 0, 0, 0, 0) := rfl
theorem e15_63 (ls : mL) (σ : mS) : ev 15 63 ls [] σ = some (none, σ) := e_vret k15_63 rfl
theorem m15 (t : Nat) (x0 : Int32) (σ : mS) : evM 15 [.ref t, .int x0] σ = ev 15 0 [some (.ref t), some (.int x0), none] [] σ := rfl
theorem k16_0 : cod 16 0 = some (.iconst 0, 1, 0, 0, 0, 0) := rfl
theorem e16_0 (ls : mL) (st : List Value) (σ : mS) : ev 16 0 ls st σ = ev 16 1 ls (.int 0 :: st) σ := e_iconst 0 k16_0 (by decide)
theorem k16_1 : cod 16 1 = some (.istore_n 2, 1, 0, 0, 0, 0) := rfl
theorem e16_1i (a0 : Option Value) (y : Int32) (o : Option Value) (x : Int32) (ls : mL) (st : List Value) (σ : mS) : ev 16 1 (a0 :: some (.int y) :: o :: ls) (.int x :: st) σ = ev 16 2 (a0 :: some (.int y) :: some (.int x) :: ls) st σ := e_istore1 k16_1 (Nat.le_add_left 3 ls.length)
theorem e16_1n (a0 : Option Value) (o : Option Value) (x : Int32) (ls : mL) (st : List Value) (σ : mS) : ev 16 1 (a0 :: none :: o :: ls) (.int x :: st) σ = ev 16 2 (a0 :: none :: some (.int x) :: ls) st σ := e_istore1 k16_1 (Nat.le_add_left 3 ls.length)
theorem e16_1r (a0 : Option Value) (y : Nat) (o : Option Value) (x : Int32) (ls : mL) (st : List Value) (σ : mS) : ev 16 1 (a0 :: some (.ref y) :: o :: ls) (.int x :: st) σ = ev 16 2 (a0 :: some (.ref y) :: some (.int x) :: ls) st σ := e_istore1 k16_1 (Nat.le_add_left 3 ls.length)
theorem k16_2 : cod 16 2 = some (.iload_n 1, 1, 0, 0, 0, 0) := rfl
theorem e16_2 (a0 : Option Value) (x : Int32) (ls : mL) (st : List Value) (σ : mS) : ev 16 2 (a0 :: some (.int x) :: ls) st σ = ev 16 3 (a0 :: some (.int x) :: ls) (.int x :: st) σ := e_iload1 k16_2 rfl
theorem k16_3 : cod 16 3 = some (.istore_n 3, 1, 0, 0, 0, 0) := rfl
theorem e16_3i (a0 a1 : Option Value) (y : Int32) (o : Option Value) (x : Int32) (ls : mL) (st : List Value) (σ : mS) : ev 16 3 (a0 :: a1 :: some (.int y) :: o :: ls) (.int x :: st) σ = ev 16 4 (a0 :: a1 :: some (.int y) :: some (.int x) :: ls) st σ := e_istore1 k16_3 (Nat.le_add_left 4 ls.length)
theorem e16_3n (a0 a1 : Option Value) (o : Option Value) (x : Int32) (ls : mL) (st : List Value) (σ : mS) : ev 16 3 (a0 :: a1 :: none :: o :: ls) (.int x :: st) σ = ev 16 4 (a0 :: a1 :: none :: some (.int x) :: ls) st σ := e_istore1 k16_3 (Nat.le_add_left 4 ls.length)
theorem e16_3r (a0 a1 : Option Value) (y : Nat) (o : Option Value) (x : Int32) (ls : mL) (st : List Value) (σ : mS) : ev 16 3 (a0 :: a1 :: some (.ref y) :: o :: ls) (.int x :: st) σ = ev 16 4 (a0 :: a1 :: some (.ref y) :: some (.int x) :: ls) st σ := e_istore1 k16_3 (Nat.le_add_left 4 ls.length)
theorem k16_4 : cod 16 4 = some (.iconst 0, 1, 0, 0, 0, 0) := rfl
theorem e16_4 (ls : mL) (st : List Value) (σ : mS) : ev 16 4 ls st σ = ev 16 5 ls (.int 0 :: st) σ := e_iconst 0 k16_4 (by decide)
theorem k16_5 : cod 16 5 = some (.istore 4, 2, 0, 0, 0, 0) := rfl
theorem e16_5i (a0 a1 a2 : Option Value) (y : Int32) (o : Option Value) (x : Int32) (ls : mL) (st : List Value) (σ : mS) : ev 16 5 (a0 :: a1 :: a2 :: some (.int y) :: o :: ls) (.int x :: st) σ = ev 16 7 (a0 :: a1 :: a2 :: some (.int y) :: some (.int x) :: ls) st σ := e_istore0 k16_5 (Nat.le_add_left 5 ls.length)
theorem e16_5n (a0 a1 a2 : Option Value) (o : Option Value) (x : Int32) (ls : mL) (st : List Value) (σ : mS) : ev 16 5 (a0 :: a1 :: a2 :: none :: o :: ls) (.int x :: st) σ = ev 16 7 (a0 :: a1 :: a2 :: none :: some (.int x) :: ls) st σ := e_istore0 k16_5 (Nat.le_add_left 5 ls.length)
theorem e16_5r (a0 a1 a2 : Option Value) (y : Nat) (o : Option Value) (x : Int32) (ls : mL) (st : List Value) (σ : mS) : ev 16 5 (a0 :: a1 :: a2 :: some (.ref y) :: o :: ls) (.int x :: st) σ = ev 16 7 (a0 :: a1 :: a2 :: some (.ref y) :: some (.int x) :: ls) st σ := e_istore0 k16_5 (Nat.le_add_left 5 ls.length)
theorem k16_7 : cod 16 7 = some (.iload 4, 2, 0, 0, 0, 0) := rfl
theorem e16_7 (a0 a1 a2 a3 : Option Value) (x : Int32) (ls : mL) (st : List Value) (σ : mS) : ev 16 7 (a0 :: a1 :: a2 :: a3 :: some (.int x) :: ls) st σ = ev 16 9 (a0 :: a1 :: a2 :: a3 :: some (.int x) :: ls) (.int x :: st) σ := e_iload0 k16_7 rfl
theorem k16_9 : cod 16 9 = some (.bipush (20), 2, 0, 0, 0, 0) := rfl
theorem e16_9 (ls : mL) (st : List Value) (σ : mS) : ev 16 9 ls st σ = ev 16 11 ls (.int 20 :: st) σ := e_bipush 20 k16_9 (by decide)
theorem k16_11 : cod 16 11 = some (.if_icmp .ge (33), 3, 44, 0, 0, 0) := rfl
theorem e16_11 (x y : Int32) (ls : mL) (st : List Value) (σ : mS) : ev 16 11 ls (.int y :: .int x :: st) σ = if y ≤ x then ev 16 44 ls st σ else ev 16 14 ls st σ := e_ic_ge k16_11
theorem k16_14 : cod 16 14 = some (.aload_n 0, 1, 0, 0, 0, 0) := rfl
theorem e16_14 (x : Nat) (ls : mL) (st : List Value) (σ : mS) : ev 16 14 (some (.ref x) :: ls) st σ = ev 16 15 (some (.ref x) :: ls) (.ref x :: st) σ := e_aload1 k16_14 rfl
theorem k16_15 : cod 16 15 = some (.getfield 23, 3, 0, 2, 0, 3) := rfl
theorem e16_15 (t : Nat) (ls : mL) (st : List Value) (σ : mS) : ev 16 15 ls (.ref t :: st) σ = gfK (σ.1 t) 0 2 (fun v => ev 16 18 ls (v :: st) σ) := e_getf k16_15
theorem k16_18 : cod 16 18 = some (.iload_n 3, 1, 0, 0, 0, 0) := rfl
theorem e16_18 (a0 a1 a2 : Option Value) (x : Int32) (ls : mL) (st : List Value) (σ : mS) : ev 16 18 (a0 :: a1 :: a2 :: some (.int x) :: ls) st σ = ev 16 19 (a0 :: a1 :: a2 :: some (.int x) :: ls) (.int x :: st) σ := e_iload1 k16_18 rfl
theorem k16_19 : cod 16 19 = some (.invokevirtual 48, 3, 37, 1, 0, 3) := rfl
theorem e16_19 (t : Nat) (x0 : Int32) (ls : mL) (st : List Value) (σ : mS) (hm : mCat st ≤ 8) : ev 16 19 ls (.int x0 :: .ref t :: st) σ = isC (σ.1 t) 3 ((evM 37 [.ref t, .int x0] σ).bind fun z => ev 16 22 ls (z.1.toList ++ st) z.2) := e_callVK k16_19 (by decide) rfl ⟨hm, Nat.le_of_ble_eq_true rfl⟩
theorem k16_22 : cod 16 22 = some (.ifCond .eq (22), 3, 44, 0, 0, 0) := rfl
theorem e16_22 (x : Int32) (ls : mL) (st : List Value) (σ : mS) : ev 16 22 ls (.int x :: st) σ = if x = 0 then ev 16 44 ls st σ else ev 16 25 ls st σ := e_if_eq k16_22
theorem k16_25 : cod 16 25 = some (.iinc 2 (1), 3, 0, 0, 0, 0) := rfl
theorem e16_25i (a0 : Option Value) (y : Int32) (x : Int32) (ls : mL) (st : List Value) (σ : mS) : ev 16 25 (a0 :: some (.int y) :: some (.int x) :: ls) st σ = ev 16 28 (a0 :: some (.int y) :: some (.int (x + 1)) :: ls) st σ := e_iinc 1 k16_25 (by decide) rfl
theorem e16_25n (a0 : Option Value) (x : Int32) (ls : mL) (st : List Value) (σ : mS) : ev 16 25 (a0 :: none :: some (.int x) :: ls) st σ = ev 16 28 (a0 :: none :: some (.int (x + 1)) :: ls) st σ := e_iinc 1 k16_25 (by decide) rfl
theorem e16_25r (a0 : Option Value) (y : Nat) (x : Int32) (ls : mL) (st : List Value) (σ : mS) : ev 16 25 (a0 :: some (.ref y) :: some (.int x) :: ls) st σ = ev 16 28 (a0 :: some (.ref y) :: some (.int (x + 1)) :: ls) st σ := e_iinc 1 k16_25 (by decide) rfl
theorem k16_28 : cod 16 28 = some (.aload_n 0, 1, 0, 0, 0, 0) := rfl
theorem e16_28 (x : Nat) (ls : mL) (st : List Value) (σ : mS) : ev 16 28 (some (.ref x) :: ls) st σ = ev 16 29 (some (.ref x) :: ls) (.ref x :: st) σ := e_aload1 k16_28 rfl
theorem k16_29 : cod 16 29 = some (.getfield 23, 3, 0, 2, 0, 3) := rfl
theorem e16_29 (t : Nat) (ls : mL) (st : List Value) (σ : mS) : ev 16 29 ls (.ref t :: st) σ = gfK (σ.1 t) 0 2 (fun v => ev 16 32 ls (v :: st) σ) := e_getf k16_29
theorem k16_32 : cod 16 32 = some (.iload_n 3, 1, 0, 0, 0, 0) := rfl
theorem e16_32 (a0 a1 a2 : Option Value) (x : Int32) (ls : mL) (st : List Value) (σ : mS) : ev 16 32 (a0 :: a1 :: a2 :: some (.int x) :: ls) st σ = ev 16 33 (a0 :: a1 :: a2 :: some (.int x) :: ls) (.int x :: st) σ := e_iload1 k16_32 rfl
theorem k16_33 : cod 16 33 = some (.iconst 4, 1, 0, 0, 0, 0) := rfl
theorem e16_33 (ls : mL) (st : List Value) (σ : mS) : ev 16 33 ls st σ = ev 16 34 ls (.int 4 :: st) σ := e_iconst 4 k16_33 (by decide)
theorem k16_34 : cod 16 34 = some (.invokevirtual 52, 3, 38, 2, 0, 3) := rfl
theorem e16_34 (t : Nat) (x0 : Int32) (x1 : Int32) (ls : mL) (st : List Value) (σ : mS) (hm : mCat st ≤ 8) : ev 16 34 ls (.int x1 :: .int x0 :: .ref t :: st) σ = isC (σ.1 t) 3 ((evM 38 [.ref t, .int x0, .int x1] σ).bind fun z => ev 16 37 ls (z.1.toList ++ st) z.2) := e_callVK k16_34 (by decide) rfl ⟨hm, Nat.le_of_ble_eq_true rfl⟩
theorem k16_37 : cod 16 37 = some (.istore_n 3, 1, 0, 0, 0, 0) := rfl
theorem e16_37i (a0 a1 : Option Value) (y : Int32) (o : Option Value) (x : Int32) (ls : mL) (st : List Value) (σ : mS) : ev 16 37 (a0 :: a1 :: some (.int y) :: o :: ls) (.int x :: st) σ = ev 16 38 (a0 :: a1 :: some (.int y) :: some (.int x) :: ls) st σ := e_istore1 k16_37 (Nat.le_add_left 4 ls.length)
theorem e16_37n (a0 a1 : Option Value) (o : Option Value) (x : Int32) (ls : mL) (st : List Value) (σ : mS) : ev 16 37 (a0 :: a1 :: none :: o :: ls) (.int x :: st) σ = ev 16 38 (a0 :: a1 :: none :: some (.int x) :: ls) st σ := e_istore1 k16_37 (Nat.le_add_left 4 ls.length)
theorem e16_37r (a0 a1 : Option Value) (y : Nat) (o : Option Value) (x : Int32) (ls : mL) (st : List Value) (σ : mS) : ev 16 37 (a0 :: a1 :: some (.ref y) :: o :: ls) (.int x :: st) σ = ev 16 38 (a0 :: a1 :: some (.ref y) :: some (.int x) :: ls) st σ := e_istore1 k16_37 (Nat.le_add_left 4 ls.length)
theorem k16_38 : cod 16 38 = some (.iinc 4 (1), 3, 0, 0, 0, 0) := rfl
theorem e16_38i (a0 a1 a2 : Option Value) (y : Int32) (x : Int32) (ls : mL) (st : List Value) (σ : mS) : ev 16 38 (a0 :: a1 :: a2 :: some (.int y) :: some (.int x) :: ls) st σ = ev 16 41 (a0 :: a1 :: a2 :: some (.int y) :: some (.int (x + 1)) :: ls) st σ := e_iinc 1 k16_38 (by decide) rfl
theorem e16_38n (a0 a1 a2 : Option Value) (x : Int32) (ls : mL) (st : List Value) (σ : mS) : ev 16 38 (a0 :: a1 :: a2 :: none :: some (.int x) :: ls) st σ = ev 16 41 (a0 :: a1 :: a2 :: none :: some (.int (x + 1)) :: ls) st σ := e_iinc 1 k16_38 (by decide) rfl
theorem e16_38r (a0 a1 a2 : Option Value) (y : Nat) (x : Int32) (ls : mL) (st : List Value) (σ : mS) : ev 16 38 (a0 :: a1 :: a2 :: some (.ref y) :: some (.int x) :: ls) st σ = ev 16 41 (a0 :: a1 :: a2 :: some (.ref y) :: some (.int (x + 1)) :: ls) st σ := e_iinc 1 k16_38 (by decide) rfl
theorem k16_41 : cod 16 41 = some (.goto (-34), 3, 7, 0, 0, 0) := rfl
theorem e16_41 (ls : mL) (st : List Value) (σ : mS) : ev 16 41 ls st σ = ev 16 7 ls st σ := e_goto k16_41
theorem k16_44 : cod 16 44 = some (.iload_n 2, 1, 0, 0, 0, 0) := rfl
theorem e16_44 (a0 a1 : Option Value) (x : Int32) (ls : mL) (st : List Value) (σ : mS) : ev 16 44 (a0 :: a1 :: some (.int x) :: ls) st σ = ev 16 45 (a0 :: a1 :: some (.int x) :: ls) (.int x :: st) σ := e_iload1 k16_44 rfl
theorem k16_45 : cod 16 45 = some (.ireturn, 1, 0, 0, 0, 0) := rfl
theorem e16_45 (x : Int32) (ls : mL) (σ : mS) : ev 16 45 ls [.int x] σ = some (some (.int x), σ) := e_iret k16_45 rfl
theorem m16 (t : Nat) (x0 : Int32) (σ : mS) : evM 16 [.ref t, .int x0] σ = ev 16 0 [some (.ref t), some (.int x0), none, none, none] [] σ := rfl
theorem k17_0 : cod 17 0 = some (.iload_n 1, 1, 0, 0, 0, 0) := rfl
theorem e17_0 (a0 : Option Value) (x : Int32) (ls : mL) (st : List Value) (σ : mS) : ev 17 0 (a0 :: some (.int x) :: ls) st σ = ev 17 1 (a0 :: some (.int x) :: ls) (.int x :: st) σ := e_iload1 k17_0 rfl
theorem k17_1 : cod 17 1 = some (.istore_n 3, 1, 0, 0, 0, 0) := rfl
theorem e17_1i (a0 a1 : Option Value) (y : Int32) (o : Option Value) (x : Int32) (ls : mL) (st : List Value) (σ : mS) : ev 17 1 (a0 :: a1 :: some (.int y) :: o :: ls) (.int x :: st) σ = ev 17 2 (a0 :: a1 :: some (.int y) :: some (.int x) :: ls) st σ := e_istore1 k17_1 (Nat.le_add_left 4 ls.length)
theorem e17_1n (a0 a1 : Option Value) (o : Option Value) (x : Int32) (ls : mL) (st : List Value) (σ : mS) : ev 17 1 (a0 :: a1 :: none :: o :: ls) (.int x :: st) σ = ev 17 2 (a0 :: a1 :: none :: some (.int x) :: ls) st σ := e_istore1 k17_1 (Nat.le_add_left 4 ls.length)
theorem e17_1r (a0 a1 : Option Value) (y : Nat) (o : Option Value) (x : Int32) (ls : mL) (st : List Value) (σ : mS) : ev 17 1 (a0 :: a1 :: some (.ref y) :: o :: ls) (.int x :: st) σ = ev 17 2 (a0 :: a1 :: some (.ref y) :: some (.int x) :: ls) st σ := e_istore1 k17_1 (Nat.le_add_left 4 ls.length)
theorem k17_2 : cod 17 2 = some (.iconst 0, 1, 0, 0, 0, 0) := rfl
theorem e17_2 (ls : mL) (st : List Value) (σ : mS) : ev 17 2 ls st σ = ev 17 3 ls (.int 0 :: st) σ := e_iconst 0 k17_2 (by decide)
theorem k17_3 : cod 17 3 = some (.istore 4, 2, 0, 0, 0, 0) := rfl
theorem e17_3i (a0 a1 a2 : Option Value) (y : Int32) (o : Option Value) (x : Int32) (ls : mL) (st : List Value) (σ : mS) : ev 17 3 (a0 :: a1 :: a2 :: some (.int y) :: o :: ls) (.int x :: st) σ = ev 17 5 (a0 :: a1 :: a2 :: some (.int y) :: some (.int x) :: ls) st σ := e_istore0 k17_3 (Nat.le_add_left 5 ls.length)
theorem e17_3n (a0 a1 a2 : Option Value) (o : Option Value) (x : Int32) (ls : mL) (st : List Value) (σ : mS) : ev 17 3 (a0 :: a1 :: a2 :: none :: o :: ls) (.int x :: st) σ = ev 17 5 (a0 :: a1 :: a2 :: none :: some (.int x) :: ls) st σ := e_istore0 k17_3 (Nat.le_add_left 5 ls.length)
theorem e17_3r (a0 a1 a2 : Option Value) (y : Nat) (o : Option Value) (x : Int32) (ls : mL) (st : List Value) (σ : mS) : ev 17 3 (a0 :: a1 :: a2 :: some (.ref y) :: o :: ls) (.int x :: st) σ = ev 17 5 (a0 :: a1 :: a2 :: some (.ref y) :: some (.int x) :: ls) st σ := e_istore0 k17_3 (Nat.le_add_left 5 ls.length)
theorem k17_5 : cod 17 5 = some (.iload 4, 2, 0, 0, 0, 0) := rfl
theorem e17_5 (a0 a1 a2 a3 : Option Value) (x : Int32) (ls : mL) (st : List Value) (σ : mS) : ev 17 5 (a0 :: a1 :: a2 :: a3 :: some (.int x) :: ls) st σ = ev 17 7 (a0 :: a1 :: a2 :: a3 :: some (.int x) :: ls) (.int x :: st) σ := e_iload0 k17_5 rfl
theorem k17_7 : cod 17 7 = some (.bipush (20), 2, 0, 0, 0, 0) := rfl
theorem e17_7 (ls : mL) (st : List Value) (σ : mS) : ev 17 7 ls st σ = ev 17 9 ls (.int 20 :: st) σ := e_bipush 20 k17_7 (by decide)
theorem k17_9 : cod 17 9 = some (.if_icmp .ge (25), 3, 34, 0, 0, 0) := rfl
theorem e17_9 (x y : Int32) (ls : mL) (st : List Value) (σ : mS) : ev 17 9 ls (.int y :: .int x :: st) σ = if y ≤ x then ev 17 34 ls st σ else ev 17 12 ls st σ := e_ic_ge k17_9
theorem k17_12 : cod 17 12 = some (.iload 4, 2, 0, 0, 0, 0) := rfl
theorem e17_12 (a0 a1 a2 a3 : Option Value) (x : Int32) (ls : mL) (st : List Value) (σ : mS) : ev 17 12 (a0 :: a1 :: a2 :: a3 :: some (.int x) :: ls) st σ = ev 17 14 (a0 :: a1 :: a2 :: a3 :: some (.int x) :: ls) (.int x :: st) σ := e_iload0 k17_12 rfl
theorem k17_14 : cod 17 14 = some (.iload_n 2, 1, 0, 0, 0, 0) := rfl
theorem e17_14 (a0 a1 : Option Value) (x : Int32) (ls : mL) (st : List Value) (σ : mS) : ev 17 14 (a0 :: a1 :: some (.int x) :: ls) st σ = ev 17 15 (a0 :: a1 :: some (.int x) :: ls) (.int x :: st) σ := e_iload1 k17_14 rfl
theorem k17_15 : cod 17 15 = some (.if_icmp .ge (19), 3, 34, 0, 0, 0) := rfl
theorem e17_15 (x y : Int32) (ls : mL) (st : List Value) (σ : mS) : ev 17 15 ls (.int y :: .int x :: st) σ = if y ≤ x then ev 17 34 ls st σ else ev 17 18 ls st σ := e_ic_ge k17_15
theorem k17_18 : cod 17 18 = some (.aload_n 0, 1, 0, 0, 0, 0) := rfl
theorem e17_18 (x : Nat) (ls : mL) (st : List Value) (σ : mS) : ev 17 18 (some (.ref x) :: ls) st σ = ev 17 19 (some (.ref x) :: ls) (.ref x :: st) σ := e_aload1 k17_18 rfl
theorem k17_19 : cod 17 19 = some (.getfield 23, 3, 0, 2, 0, 3) := rfl
theorem e17_19 (t : Nat) (ls : mL) (st : List Value) (σ : mS) : ev 17 19 ls (.ref t :: st) σ = gfK (σ.1 t) 0 2 (fun v => ev 17 22 ls (v :: st) σ) := e_getf k17_19
theorem k17_22 : cod 17 22 = some (.iload_n 3, 1, 0, 0, 0, 0) := rfl
theorem e17_22 (a0 a1 a2 : Option Value) (x : Int32) (ls : mL) (st : List Value) (σ : mS) : ev 17 22 (a0 :: a1 :: a2 :: some (.int x) :: ls) st σ = ev 17 23 (a0 :: a1 :: a2 :: some (.int x) :: ls) (.int x :: st) σ := e_iload1 k17_22 rfl
theorem k17_23 : cod 17 23 = some (.iconst 4, 1, 0, 0, 0, 0) := rfl
theorem e17_23 (ls : mL) (st : List Value) (σ : mS) : ev 17 23 ls st σ = ev 17 24 ls (.int 4 :: st) σ := e_iconst 4 k17_23 (by decide)
theorem k17_24 : cod 17 24 = some (.invokevirtual 52, 3, 38, 2, 0, 3) := rfl
theorem e17_24 (t : Nat) (x0 : Int32) (x1 : Int32) (ls : mL) (st : List Value) (σ : mS) (hm : mCat st ≤ 8) : ev 17 24 ls (.int x1 :: .int x0 :: .ref t :: st) σ = isC (σ.1 t) 3 ((evM 38 [.ref t, .int x0, .int x1] σ).bind fun z => ev 17 27 ls (z.1.toList ++ st) z.2) := e_callVK k17_24 (by decide) rfl ⟨hm, Nat.le_of_ble_eq_true rfl⟩
theorem k17_27 : cod 17 27 = some (.istore_n 3, 1, 0, 0, 0, 0) := rfl
theorem e17_27i (a0 a1 : Option Value) (y : Int32) (o : Option Value) (x : Int32) (ls : mL) (st : List Value) (σ : mS) : ev 17 27 (a0 :: a1 :: some (.int y) :: o :: ls) (.int x :: st) σ = ev 17 28 (a0 :: a1 :: some (.int y) :: some (.int x) :: ls) st σ := e_istore1 k17_27 (Nat.le_add_left 4 ls.length)
theorem e17_27n (a0 a1 : Option Value) (o : Option Value) (x : Int32) (ls : mL) (st : List Value) (σ : mS) : ev 17 27 (a0 :: a1 :: none :: o :: ls) (.int x :: st) σ = ev 17 28 (a0 :: a1 :: none :: some (.int x) :: ls) st σ := e_istore1 k17_27 (Nat.le_add_left 4 ls.length)
theorem e17_27r (a0 a1 : Option Value) (y : Nat) (o : Option Value) (x : Int32) (ls : mL) (st : List Value) (σ : mS) : ev 17 27 (a0 :: a1 :: some (.ref y) :: o :: ls) (.int x :: st) σ = ev 17 28 (a0 :: a1 :: some (.ref y) :: some (.int x) :: ls) st σ := e_istore1 k17_27 (Nat.le_add_left 4 ls.length)
theorem k17_28 : cod 17 28 = some (.iinc 4 (1), 3, 0, 0, 0, 0) := rfl
theorem e17_28i (a0 a1 a2 : Option Value) (y : Int32) (x : Int32) (ls : mL) (st : List Value) (σ : mS) : ev 17 28 (a0 :: a1 :: a2 :: some (.int y) :: some (.int x) :: ls) st σ = ev 17 31 (a0 :: a1 :: a2 :: some (.int y) :: some (.int (x + 1)) :: ls) st σ := e_iinc 1 k17_28 (by decide) rfl
theorem e17_28n (a0 a1 a2 : Option Value) (x : Int32) (ls : mL) (st : List Value) (σ : mS) : ev 17 28 (a0 :: a1 :: a2 :: none :: some (.int x) :: ls) st σ = ev 17 31 (a0 :: a1 :: a2 :: none :: some (.int (x + 1)) :: ls) st σ := e_iinc 1 k17_28 (by decide) rfl
theorem e17_28r (a0 a1 a2 : Option Value) (y : Nat) (x : Int32) (ls : mL) (st : List Value) (σ : mS) : ev 17 28 (a0 :: a1 :: a2 :: some (.ref y) :: some (.int x) :: ls) st σ = ev 17 31 (a0 :: a1 :: a2 :: some (.ref y) :: some (.int (x + 1)) :: ls) st σ := e_iinc 1 k17_28 (by decide) rfl
theorem k17_31 : cod 17 31 = some (.goto (-26), 3, 5, 0, 0, 0) := rfl
theorem e17_31 (ls : mL) (st : List Value) (σ : mS) : ev 17 31 ls st σ = ev 17 5 ls st σ := e_goto k17_31
theorem k17_34 : cod 17 34 = some (.iload_n 3, 1, 0, 0, 0, 0) := rfl
theorem e17_34 (a0 a1 a2 : Option Value) (x : Int32) (ls : mL) (st : List Value) (σ : mS) : ev 17 34 (a0 :: a1 :: a2 :: some (.int x) :: ls) st σ = ev 17 35 (a0 :: a1 :: a2 :: some (.int x) :: ls) (.int x :: st) σ := e_iload1 k17_34 rfl
theorem k17_35 : cod 17 35 = some (.ireturn, 1, 0, 0, 0, 0) := rfl
theorem e17_35 (x : Int32) (ls : mL) (σ : mS) : ev 17 35 ls [.int x] σ = some (some (.int x), σ) := e_iret k17_35 rfl
theorem m17 (t : Nat) (x0 : Int32) (x1 : Int32) (σ : mS) : evM 17 [.ref t, .int x0, .int x1] σ = ev 17 0 [some (.ref t), some (.int x0), some (.int x1), none, none] [] σ := rfl
theorem k18_0 : cod 18 0 = some (.iconst 0, 1, 0, 0, 0, 0) := rfl
theorem e18_0 (ls : mL) (st : List Value) (σ : mS) : ev 18 0 ls st σ = ev 18 1 ls (.int 0 :: st) σ := e_iconst 0 k18_0 (by decide)
theorem k18_1 : cod 18 1 = some (.istore_n 3, 1, 0, 0, 0, 0) := rfl
theorem e18_1i (a0 a1 : Option Value) (y : Int32) (o : Option Value) (x : Int32) (ls : mL) (st : List Value) (σ : mS) : ev 18 1 (a0 :: a1 :: some (.int y) :: o :: ls) (.int x :: st) σ = ev 18 2 (a0 :: a1 :: some (.int y) :: some (.int x) :: ls) st σ := e_istore1 k18_1 (Nat.le_add_left 4 ls.length)
theorem e18_1n (a0 a1 : Option Value) (o : Option Value) (x : Int32) (ls : mL) (st : List Value) (σ : mS) : ev 18 1 (a0 :: a1 :: none :: o :: ls) (.int x :: st) σ = ev 18 2 (a0 :: a1 :: none :: some (.int x) :: ls) st σ := e_istore1 k18_1 (Nat.le_add_left 4 ls.length)
theorem e18_1r (a0 a1 : Option Value) (y : Nat) (o : Option Value) (x : Int32) (ls : mL) (st : List Value) (σ : mS) : ev 18 1 (a0 :: a1 :: some (.ref y) :: o :: ls) (.int x :: st) σ = ev 18 2 (a0 :: a1 :: some (.ref y) :: some (.int x) :: ls) st σ := e_istore1 k18_1 (Nat.le_add_left 4 ls.length)
theorem k18_2 : cod 18 2 = some (.iconst 0, 1, 0, 0, 0, 0) := rfl
theorem e18_2 (ls : mL) (st : List Value) (σ : mS) : ev 18 2 ls st σ = ev 18 3 ls (.int 0 :: st) σ := e_iconst 0 k18_2 (by decide)
theorem k18_3 : cod 18 3 = some (.istore 4, 2, 0, 0, 0, 0) := rfl
theorem e18_3i (a0 a1 a2 : Option Value) (y : Int32) (o : Option Value) (x : Int32) (ls : mL) (st : List Value) (σ : mS) : ev 18 3 (a0 :: a1 :: a2 :: some (.int y) :: o :: ls) (.int x :: st) σ = ev 18 5 (a0 :: a1 :: a2 :: some (.int y) :: some (.int x) :: ls) st σ := e_istore0 k18_3 (Nat.le_add_left 5 ls.length)
theorem e18_3n (a0 a1 a2 : Option Value) (o : Option Value) (x : Int32) (ls : mL) (st : List Value) (σ : mS) : ev 18 3 (a0 :: a1 :: a2 :: none :: o :: ls) (.int x :: st) σ = ev 18 5 (a0 :: a1 :: a2 :: none :: some (.int x) :: ls) st σ := e_istore0 k18_3 (Nat.le_add_left 5 ls.length)
theorem e18_3r (a0 a1 a2 : Option Value) (y : Nat) (o : Option Value) (x : Int32) (ls : mL) (st : List Value) (σ : mS) : ev 18 3 (a0 :: a1 :: a2 :: some (.ref y) :: o :: ls) (.int x :: st) σ = ev 18 5 (a0 :: a1 :: a2 :: some (.ref y) :: some (.int x) :: ls) st σ := e_istore0 k18_3 (Nat.le_add_left 5 ls.length)
theorem k18_5 : cod 18 5 = some (.iload 4, 2, 0, 0, 0, 0) := rfl
theorem e18_5 (a0 a1 a2 a3 : Option Value) (x : Int32) (ls : mL) (st : List Value) (σ : mS) : ev 18 5 (a0 :: a1 :: a2 :: a3 :: some (.int x) :: ls) st σ = ev 18 7 (a0 :: a1 :: a2 :: a3 :: some (.int x) :: ls) (.int x :: st) σ := e_iload0 k18_5 rfl
theorem k18_7 : cod 18 7 = some (.bipush (60), 2, 0, 0, 0, 0) := rfl
theorem e18_7 (ls : mL) (st : List Value) (σ : mS) : ev 18 7 ls st σ = ev 18 9 ls (.int 60 :: st) σ := e_bipush 60 k18_7 (by decide)
theorem k18_9 : cod 18 9 = some (.if_icmp .ge (75), 3, 84, 0, 0, 0) := rfl
theorem e18_9 (x y : Int32) (ls : mL) (st : List Value) (σ : mS) : ev 18 9 ls (.int y :: .int x :: st) σ = if y ≤ x then ev 18 84 ls st σ else ev 18 12 ls st σ := e_ic_ge k18_9
theorem k18_12 : cod 18 12 = some (.iload 4, 2, 0, 0, 0, 0) := rfl
theorem e18_12 (a0 a1 a2 a3 : Option Value) (x : Int32) (ls : mL) (st : List Value) (σ : mS) : ev 18 12 (a0 :: a1 :: a2 :: a3 :: some (.int x) :: ls) st σ = ev 18 14 (a0 :: a1 :: a2 :: a3 :: some (.int x) :: ls) (.int x :: st) σ := e_iload0 k18_12 rfl
theorem k18_14 : cod 18 14 = some (.aload_n 0, 1, 0, 0, 0, 0) := rfl
theorem e18_14 (x : Nat) (ls : mL) (st : List Value) (σ : mS) : ev 18 14 (some (.ref x) :: ls) st σ = ev 18 15 (some (.ref x) :: ls) (.ref x :: st) σ := e_aload1 k18_14 rfl
theorem k18_15 : cod 18 15 = some (.getfield 26, 3, 0, 3, 0, 3) := rfl
theorem e18_15 (t : Nat) (ls : mL) (st : List Value) (σ : mS) : ev 18 15 ls (.ref t :: st) σ = gfK (σ.1 t) 0 3 (fun v => ev 18 18 ls (v :: st) σ) := e_getf k18_15
theorem k18_18 : cod 18 18 = some (.getfield 66, 3, 3, 3, 1, 0) := rfl
theorem e18_18 (t : Nat) (ls : mL) (st : List Value) (σ : mS) : ev 18 18 ls (.ref t :: st) σ = gfK (σ.1 t) 3 3 (fun v => ev 18 21 ls (v :: st) σ) := e_getf k18_18
theorem k18_21 : cod 18 21 = some (.if_icmp .ge (63), 3, 84, 0, 0, 0) := rfl
theorem e18_21 (x y : Int32) (ls : mL) (st : List Value) (σ : mS) : ev 18 21 ls (.int y :: .int x :: st) σ = if y ≤ x then ev 18 84 ls st σ else ev 18 24 ls st σ := e_ic_ge k18_21
theorem k18_24 : cod 18 24 = some (.iload_n 1, 1, 0, 0, 0, 0) := rfl
theorem e18_24 (a0 : Option Value) (x : Int32) (ls : mL) (st : List Value) (σ : mS) : ev 18 24 (a0 :: some (.int x) :: ls) st σ = ev 18 25 (a0 :: some (.int x) :: ls) (.int x :: st) σ := e_iload1 k18_24 rfl
theorem k18_25 : cod 18 25 = some (.bipush (-9), 2, 0, 0, 0, 0) := rfl
theorem e18_25 (ls : mL) (st : List Value) (σ : mS) : ev 18 25 ls st σ = ev 18 27 ls (.int (-9) :: st) σ := e_bipush (-9) k18_25 (by decide)
theorem k18_27 : cod 18 27 = some (.if_icmp .eq (17), 3, 44, 0, 0, 0) := rfl
theorem e18_27 (x y : Int32) (ls : mL) (st : List Value) (σ : mS) : ev 18 27 ls (.int y :: .int x :: st) σ = if x = y then ev 18 44 ls st σ else ev 18 30 ls st σ := e_ic_eq k18_27
theorem k18_30 : cod 18 30 = some (.aload_n 0, 1, 0, 0, 0, 0) := rfl
theorem e18_30 (x : Nat) (ls : mL) (st : List Value) (σ : mS) : ev 18 30 (some (.ref x) :: ls) st σ = ev 18 31 (some (.ref x) :: ls) (.ref x :: st) σ := e_aload1 k18_30 rfl
theorem k18_31 : cod 18 31 = some (.getfield 26, 3, 0, 3, 0, 3) := rfl
theorem e18_31 (t : Nat) (ls : mL) (st : List Value) (σ : mS) : ev 18 31 ls (.ref t :: st) σ = gfK (σ.1 t) 0 3 (fun v => ev 18 34 ls (v :: st) σ) := e_getf k18_31
theorem k18_34 : cod 18 34 = some (.iload 4, 2, 0, 0, 0, 0) := rfl
theorem e18_34 (a0 a1 a2 a3 : Option Value) (x : Int32) (ls : mL) (st : List Value) (σ : mS) : ev 18 34 (a0 :: a1 :: a2 :: a3 :: some (.int x) :: ls) st σ = ev 18 36 (a0 :: a1 :: a2 :: a3 :: some (.int x) :: ls) (.int x :: st) σ := e_iload0 k18_34 rfl
theorem k18_36 : cod 18 36 = some (.iconst 1, 1, 0, 0, 0, 0) := rfl
theorem e18_36 (ls : mL) (st : List Value) (σ : mS) : ev 18 36 ls st σ = ev 18 37 ls (.int 1 :: st) σ := e_iconst 1 k18_36 (by decide)
theorem k18_37 : cod 18 37 = some (.invokevirtual 52, 3, 38, 2, 0, 3) := rfl
theorem e18_37 (t : Nat) (x0 : Int32) (x1 : Int32) (ls : mL) (st : List Value) (σ : mS) (hm : mCat st ≤ 8) : ev 18 37 ls (.int x1 :: .int x0 :: .ref t :: st) σ = isC (σ.1 t) 3 ((evM 38 [.ref t, .int x0, .int x1] σ).bind fun z => ev 18 40 ls (z.1.toList ++ st) z.2) := e_callVK k18_37 (by decide) rfl ⟨hm, Nat.le_of_ble_eq_true rfl⟩
theorem k18_40 : cod 18 40 = some (.iload_n 1, 1, 0, 0, 0, 0) := rfl
theorem e18_40 (a0 : Option Value) (x : Int32) (ls : mL) (st : List Value) (σ : mS) : ev 18 40 (a0 :: some (.int x) :: ls) st σ = ev 18 41 (a0 :: some (.int x) :: ls) (.int x :: st) σ := e_iload1 k18_40 rfl
theorem k18_41 : cod 18 41 = some (.if_icmp .ne (7), 3, 48, 0, 0, 0) := rfl
theorem e18_41 (x y : Int32) (ls : mL) (st : List Value) (σ : mS) : ev 18 41 ls (.int y :: .int x :: st) σ = if x = y then ev 18 44 ls st σ else ev 18 48 ls st σ := e_ic_ne k18_41
theorem k18_44 : cod 18 44 = some (.iconst 1, 1, 0, 0, 0, 0) := rfl
theorem e18_44 (ls : mL) (st : List Value) (σ : mS) : ev 18 44 ls st σ = ev 18 45 ls (.int 1 :: st) σ := e_iconst 1 k18_44 (by decide)
theorem k18_45 : cod 18 45 = some (.goto (4), 3, 49, 0, 0, 0) := rfl
theorem e18_45 (ls : mL) (st : List Value) (σ : mS) : ev 18 45 ls st σ = ev 18 49 ls st σ := e_goto k18_45
theorem k18_48 : cod 18 48 = some (.iconst 0, 1, 0, 0, 0, 0) := rfl
theorem e18_48 (ls : mL) (st : List Value) (σ : mS) : ev 18 48 ls st σ = ev 18 49 ls (.int 0 :: st) σ := e_iconst 0 k18_48 (by decide)
theorem k18_49 : cod 18 49 = some (.istore 5, 2, 0, 0, 0, 0) := rfl
theorem e18_49i (a0 a1 a2 a3 : Option Value) (y : Int32) (o : Option Value) (x : Int32) (ls : mL) (st : List Value) (σ : mS) : ev 18 49 (a0 :: a1 :: a2 :: a3 :: some (.int y) :: o :: ls) (.int x :: st) σ = ev 18 51 (a0 :: a1 :: a2 :: a3 :: some (.int y) :: some (.int x) :: ls) st σ := e_istore0 k18_49 (Nat.le_add_left 6 ls.length)
theorem e18_49n (a0 a1 a2 a3 : Option Value) (o : Option Value) (x : Int32) (ls : mL) (st : List Value) (σ : mS) : ev 18 49 (a0 :: a1 :: a2 :: a3 :: none :: o :: ls) (.int x :: st) σ = ev 18 51 (a0 :: a1 :: a2 :: a3 :: none :: some (.int x) :: ls) st σ := e_istore0 k18_49 (Nat.le_add_left 6 ls.length)
theorem e18_49r (a0 a1 a2 a3 : Option Value) (y : Nat) (o : Option Value) (x : Int32) (ls : mL) (st : List Value) (σ : mS) : ev 18 49 (a0 :: a1 :: a2 :: a3 :: some (.ref y) :: o :: ls) (.int x :: st) σ = ev 18 51 (a0 :: a1 :: a2 :: a3 :: some (.ref y) :: some (.int x) :: ls) st σ := e_istore0 k18_49 (Nat.le_add_left 6 ls.length)
theorem k18_51 : cod 18 51 = some (.iload_n 3, 1, 0, 0, 0, 0) := rfl
theorem e18_51 (a0 a1 a2 : Option Value) (x : Int32) (ls : mL) (st : List Value) (σ : mS) : ev 18 51 (a0 :: a1 :: a2 :: some (.int x) :: ls) st σ = ev 18 52 (a0 :: a1 :: a2 :: some (.int x) :: ls) (.int x :: st) σ := e_iload1 k18_51 rfl
theorem k18_52 : cod 18 52 = some (.iload 5, 2, 0, 0, 0, 0) := rfl
theorem e18_52 (a0 a1 a2 a3 a4 : Option Value) (x : Int32) (ls : mL) (st : List Value) (σ : mS) : ev 18 52 (a0 :: a1 :: a2 :: a3 :: a4 :: some (.int x) :: ls) st σ = ev 18 54 (a0 :: a1 :: a2 :: a3 :: a4 :: some (.int x) :: ls) (.int x :: st) σ := e_iload0 k18_52 rfl
theorem k18_54 : cod 18 54 = some (.ifCond .eq (21), 3, 75, 0, 0, 0) := rfl
theorem e18_54 (x : Int32) (ls : mL) (st : List Value) (σ : mS) : ev 18 54 ls (.int x :: st) σ = if x = 0 then ev 18 75 ls st σ else ev 18 57 ls st σ := e_if_eq k18_54
theorem k18_57 : cod 18 57 = some (.aload_n 0, 1, 0, 0, 0, 0) := rfl
theorem e18_57 (x : Nat) (ls : mL) (st : List Value) (σ : mS) : ev 18 57 (some (.ref x) :: ls) st σ = ev 18 58 (some (.ref x) :: ls) (.ref x :: st) σ := e_aload1 k18_57 rfl
theorem k18_58 : cod 18 58 = some (.getfield 26, 3, 0, 3, 0, 3) := rfl
theorem e18_58 (t : Nat) (ls : mL) (st : List Value) (σ : mS) : ev 18 58 ls (.ref t :: st) σ = gfK (σ.1 t) 0 3 (fun v => ev 18 61 ls (v :: st) σ) := e_getf k18_58
theorem k18_61 : cod 18 61 = some (.iload 4, 2, 0, 0, 0, 0) := rfl
theorem e18_61 (a0 a1 a2 a3 : Option Value) (x : Int32) (ls : mL) (st : List Value) (σ : mS) : ev 18 61 (a0 :: a1 :: a2 :: a3 :: some (.int x) :: ls) st σ = ev 18 63 (a0 :: a1 :: a2 :: a3 :: some (.int x) :: ls) (.int x :: st) σ := e_iload0 k18_61 rfl
theorem k18_63 : cod 18 63 = some (.iconst 3, 1, 0, 0, 0, 0) := rfl
theorem e18_63 (ls : mL) (st : List Value) (σ : mS) : ev 18 63 ls st σ = ev 18 64 ls (.int 3 :: st) σ := e_iconst 3 k18_63 (by decide)
theorem k18_64 : cod 18 64 = some (.invokevirtual 52, 3, 38, 2, 0, 3) := rfl
theorem e18_64 (t : Nat) (x0 : Int32) (x1 : Int32) (ls : mL) (st : List Value) (σ : mS) (hm : mCat st ≤ 8) : ev 18 64 ls (.int x1 :: .int x0 :: .ref t :: st) σ = isC (σ.1 t) 3 ((evM 38 [.ref t, .int x0, .int x1] σ).bind fun z => ev 18 67 ls (z.1.toList ++ st) z.2) := e_callVK k18_64 (by decide) rfl ⟨hm, Nat.le_of_ble_eq_true rfl⟩
theorem k18_67 : cod 18 67 = some (.iload_n 2, 1, 0, 0, 0, 0) := rfl
theorem e18_67 (a0 a1 : Option Value) (x : Int32) (ls : mL) (st : List Value) (σ : mS) : ev 18 67 (a0 :: a1 :: some (.int x) :: ls) st σ = ev 18 68 (a0 :: a1 :: some (.int x) :: ls) (.int x :: st) σ := e_iload1 k18_67 rfl
theorem k18_68 : cod 18 68 = some (.if_icmp .ne (7), 3, 75, 0, 0, 0) := rfl
theorem e18_68 (x y : Int32) (ls : mL) (st : List Value) (σ : mS) : ev 18 68 ls (.int y :: .int x :: st) σ = if x = y then ev 18 71 ls st σ else ev 18 75 ls st σ := e_ic_ne k18_68
theorem k18_71 : cod 18 71 = some (.iconst 1, 1, 0, 0, 0, 0) := rfl
theorem e18_71 (ls : mL) (st : List Value) (σ : mS) : ev 18 71 ls st σ = ev 18 72 ls (.int 1 :: st) σ := e_iconst 1 k18_71 (by decide)
theorem k18_72 : cod 18 72 = some (.goto (4), 3, 76, 0, 0, 0) := rfl
theorem e18_72 (ls : mL) (st : List Value) (σ : mS) : ev 18 72 ls st σ = ev 18 76 ls st σ := e_goto k18_72
theorem k18_75 : cod 18 75 = some (.iconst 0, 1, 0, 0, 0, 0) := rfl
theorem e18_75 (ls : mL) (st : List Value) (σ : mS) : ev 18 75 ls st σ = ev 18 76 ls (.int 0 :: st) σ := e_iconst 0 k18_75 (by decide)
theorem k18_76 : cod 18 76 = some (.iadd, 1, 0, 0, 0, 0) := rfl
theorem e18_76 (x y : Int32) (ls : mL) (st : List Value) (σ : mS) : ev 18 76 ls (.int y :: .int x :: st) σ = ev 18 77 ls (.int (x + y) :: st) σ := e_iadd k18_76
theorem k18_77 : cod 18 77 = some (.istore_n 3, 1, 0, 0, 0, 0) := rfl
theorem e18_77i (a0 a1 : Option Value) (y : Int32) (o : Option Value) (x : Int32) (ls : mL) (st : List Value) (σ : mS) : ev 18 77 (a0 :: a1 :: some (.int y) :: o :: ls) (.int x :: st) σ = ev 18 78 (a0 :: a1 :: some (.int y) :: some (.int x) :: ls) st σ := e_istore1 k18_77 (Nat.le_add_left 4 ls.length)
theorem e18_77n (a0 a1 : Option Value) (o : Option Value) (x : Int32) (ls : mL) (st : List Value) (σ : mS) : ev 18 77 (a0 :: a1 :: none :: o :: ls) (.int x :: st) σ = ev 18 78 (a0 :: a1 :: none :: some (.int x) :: ls) st σ := e_istore1 k18_77 (Nat.le_add_left 4 ls.length)
theorem e18_77r (a0 a1 : Option Value) (y : Nat) (o : Option Value) (x : Int32) (ls : mL) (st : List Value) (σ : mS) : ev 18 77 (a0 :: a1 :: some (.ref y) :: o :: ls) (.int x :: st) σ = ev 18 78 (a0 :: a1 :: some (.ref y) :: some (.int x) :: ls) st σ := e_istore1 k18_77 (Nat.le_add_left 4 ls.length)
theorem k18_78 : cod 18 78 = some (.iinc 4 (1), 3, 0, 0, 0, 0) := rfl
theorem e18_78i (a0 a1 a2 : Option Value) (y : Int32) (x : Int32) (ls : mL) (st : List Value) (σ : mS) : ev 18 78 (a0 :: a1 :: a2 :: some (.int y) :: some (.int x) :: ls) st σ = ev 18 81 (a0 :: a1 :: a2 :: some (.int y) :: some (.int (x + 1)) :: ls) st σ := e_iinc 1 k18_78 (by decide) rfl
theorem e18_78n (a0 a1 a2 : Option Value) (x : Int32) (ls : mL) (st : List Value) (σ : mS) : ev 18 78 (a0 :: a1 :: a2 :: none :: some (.int x) :: ls) st σ = ev 18 81 (a0 :: a1 :: a2 :: none :: some (.int (x + 1)) :: ls) st σ := e_iinc 1 k18_78 (by decide) rfl
theorem e18_78r (a0 a1 a2 : Option Value) (y : Nat) (x : Int32) (ls : mL) (st : List Value) (σ : mS) : ev 18 78 (a0 :: a1 :: a2 :: some (.ref y) :: some (.int x) :: ls) st σ = ev 18 81 (a0 :: a1 :: a2 :: some (.ref y) :: some (.int (x + 1)) :: ls) st σ := e_iinc 1 k18_78 (by decide) rfl
theorem k18_81 : cod 18 81 = some (.goto (-76), 3, 5, 0, 0, 0) := rfl
theorem e18_81 (ls : mL) (st : List Value) (σ : mS) : ev 18 81 ls st σ = ev 18 5 ls st σ := e_goto k18_81
theorem k18_84 : cod 18 84 = some (.iload_n 3, 1, 0, 0, 0, 0) := rfl
theorem e18_84 (a0 a1 a2 : Option Value) (x : Int32) (ls : mL) (st : List Value) (σ : mS) : ev 18 84 (a0 :: a1 :: a2 :: some (.int x) :: ls) st σ = ev 18 85 (a0 :: a1 :: a2 :: some (.int x) :: ls) (.int x :: st) σ := e_iload1 k18_84 rfl
theorem k18_85 : cod 18 85 = some (.ireturn, 1, 0, 0, 0, 0) := rfl
theorem e18_85 (x : Int32) (ls : mL) (σ : mS) : ev 18 85 ls [.int x] σ = some (some (.int x), σ) := e_iret k18_85 rfl
theorem m18 (t : Nat) (x0 : Int32) (x1 : Int32) (σ : mS) : evM 18 [.ref t, .int x0, .int x1] σ = ev 18 0 [some (.ref t), some (.int x0), some (.int x1), none, none, none] [] σ := rfl
theorem k19_0 : cod 19 0 = some (.aload_n 0, 1, 0, 0, 0, 0) := rfl
theorem e19_0 (x : Nat) (ls : mL) (st : List Value) (σ : mS) : ev 19 0 (some (.ref x) :: ls) st σ = ev 19 1 (some (.ref x) :: ls) (.ref x :: st) σ := e_aload1 k19_0 rfl
theorem k19_1 : cod 19 1 = some (.getfield 14, 3, 0, 0, 0, 3) := rfl
theorem e19_1 (t : Nat) (ls : mL) (st : List Value) (σ : mS) : ev 19 1 ls (.ref t :: st) σ = gfK (σ.1 t) 0 0 (fun v => ev 19 4 ls (v :: st) σ) := e_getf k19_1
theorem k19_4 : cod 19 4 = some (.aload_n 1, 1, 0, 0, 0, 0) := rfl
theorem e19_4 (a0 : Option Value) (x : Nat) (ls : mL) (st : List Value) (σ : mS) : ev 19 4 (a0 :: some (.ref x) :: ls) st σ = ev 19 5 (a0 :: some (.ref x) :: ls) (.ref x :: st) σ := e_aload1 k19_4 rfl
theorem k19_5 : cod 19 5 = some (.getfield 14, 3, 0, 0, 0, 3) := rfl
theorem e19_5 (t : Nat) (ls : mL) (st : List Value) (σ : mS) : ev 19 5 ls (.ref t :: st) σ = gfK (σ.1 t) 0 0 (fun v => ev 19 8 ls (v :: st) σ) := e_getf k19_5
theorem k19_8 : cod 19 8 = some (.invokevirtual 29, 3, 40, 1, 0, 3) := rfl
theorem e19_8 (t : Nat) (x0 : Nat) (ls : mL) (st : List Value) (σ : mS) (hm : mCat st ≤ 8) : ev 19 8 ls (.ref x0 :: .ref t :: st) σ = isC (σ.1 t) 3 ((evM 40 [.ref t, .ref x0] σ).bind fun z => ev 19 11 ls (z.1.toList ++ st) z.2) := e_callVK k19_8 (by decide) rfl ⟨hm, Nat.le_of_ble_eq_true rfl⟩
theorem k19_11 : cod 19 11 = some (.aload_n 0, 1, 0, 0, 0, 0) := rfl
theorem e19_11 (x : Nat) (ls : mL) (st : List Value) (σ : mS) : ev 19 11 (some (.ref x) :: ls) st σ = ev 19 12 (some (.ref x) :: ls) (.ref x :: st) σ := e_aload1 k19_11 rfl
theorem k19_12 : cod 19 12 = some (.getfield 20, 3, 0, 1, 0, 3) := rfl
theorem e19_12 (t : Nat) (ls : mL) (st : List Value) (σ : mS) : ev 19 12 ls (.ref t :: st) σ = gfK (σ.1 t) 0 1 (fun v => ev 19 15 ls (v :: st) σ) := e_getf k19_12
theorem k19_15 : cod 19 15 = some (.aload_n 1, 1, 0, 0, 0, 0) := rfl
theorem e19_15 (a0 : Option Value) (x : Nat) (ls : mL) (st : List Value) (σ : mS) : ev 19 15 (a0 :: some (.ref x) :: ls) st σ = ev 19 16 (a0 :: some (.ref x) :: ls) (.ref x :: st) σ := e_aload1 k19_15 rfl
theorem k19_16 : cod 19 16 = some (.getfield 20, 3, 0, 1, 0, 3) := rfl
theorem e19_16 (t : Nat) (ls : mL) (st : List Value) (σ : mS) : ev 19 16 ls (.ref t :: st) σ = gfK (σ.1 t) 0 1 (fun v => ev 19 19 ls (v :: st) σ) := e_getf k19_16
theorem k19_19 : cod 19 19 = some (.invokevirtual 29, 3, 40, 1, 0, 3) := rfl
theorem e19_19 (t : Nat) (x0 : Nat) (ls : mL) (st : List Value) (σ : mS) (hm : mCat st ≤ 8) : ev 19 19 ls (.ref x0 :: .ref t :: st) σ = isC (σ.1 t) 3 ((evM 40 [.ref t, .ref x0] σ).bind fun z => ev 19 22 ls (z.1.toList ++ st) z.2) := e_callVK k19_19 (by decide) rfl ⟨hm, Nat.le_of_ble_eq_true rfl⟩
theorem k19_22 : cod 19 22 = some (.aload_n 0, 1, 0, 0, 0, 0) := rfl
theorem e19_22 (x : Nat) (ls : mL) (st : List Value) (σ : mS) : ev 19 22 (some (.ref x) :: ls) st σ = ev 19 23 (some (.ref x) :: ls) (.ref x :: st) σ := e_aload1 k19_22 rfl
theorem k19_23 : cod 19 23 = some (.getfield 23, 3, 0, 2, 0, 3) := rfl
theorem e19_23 (t : Nat) (ls : mL) (st : List Value) (σ : mS) : ev 19 23 ls (.ref t :: st) σ = gfK (σ.1 t) 0 2 (fun v => ev 19 26 ls (v :: st) σ) := e_getf k19_23
theorem k19_26 : cod 19 26 = some (.aload_n 1, 1, 0, 0, 0, 0) := rfl
theorem e19_26 (a0 : Option Value) (x : Nat) (ls : mL) (st : List Value) (σ : mS) : ev 19 26 (a0 :: some (.ref x) :: ls) st σ = ev 19 27 (a0 :: some (.ref x) :: ls) (.ref x :: st) σ := e_aload1 k19_26 rfl
theorem k19_27 : cod 19 27 = some (.getfield 23, 3, 0, 2, 0, 3) := rfl
theorem e19_27 (t : Nat) (ls : mL) (st : List Value) (σ : mS) : ev 19 27 ls (.ref t :: st) σ = gfK (σ.1 t) 0 2 (fun v => ev 19 30 ls (v :: st) σ) := e_getf k19_27
theorem k19_30 : cod 19 30 = some (.invokevirtual 29, 3, 40, 1, 0, 3) := rfl
theorem e19_30 (t : Nat) (x0 : Nat) (ls : mL) (st : List Value) (σ : mS) (hm : mCat st ≤ 8) : ev 19 30 ls (.ref x0 :: .ref t :: st) σ = isC (σ.1 t) 3 ((evM 40 [.ref t, .ref x0] σ).bind fun z => ev 19 33 ls (z.1.toList ++ st) z.2) := e_callVK k19_30 (by decide) rfl ⟨hm, Nat.le_of_ble_eq_true rfl⟩
theorem k19_33 : cod 19 33 = some (.aload_n 0, 1, 0, 0, 0, 0) := rfl
theorem e19_33 (x : Nat) (ls : mL) (st : List Value) (σ : mS) : ev 19 33 (some (.ref x) :: ls) st σ = ev 19 34 (some (.ref x) :: ls) (.ref x :: st) σ := e_aload1 k19_33 rfl
theorem k19_34 : cod 19 34 = some (.getfield 26, 3, 0, 3, 0, 3) := rfl
theorem e19_34 (t : Nat) (ls : mL) (st : List Value) (σ : mS) : ev 19 34 ls (.ref t :: st) σ = gfK (σ.1 t) 0 3 (fun v => ev 19 37 ls (v :: st) σ) := e_getf k19_34
theorem k19_37 : cod 19 37 = some (.aload_n 1, 1, 0, 0, 0, 0) := rfl
theorem e19_37 (a0 : Option Value) (x : Nat) (ls : mL) (st : List Value) (σ : mS) : ev 19 37 (a0 :: some (.ref x) :: ls) st σ = ev 19 38 (a0 :: some (.ref x) :: ls) (.ref x :: st) σ := e_aload1 k19_37 rfl
theorem k19_38 : cod 19 38 = some (.getfield 26, 3, 0, 3, 0, 3) := rfl
theorem e19_38 (t : Nat) (ls : mL) (st : List Value) (σ : mS) : ev 19 38 ls (.ref t :: st) σ = gfK (σ.1 t) 0 3 (fun v => ev 19 41 ls (v :: st) σ) := e_getf k19_38
theorem k19_41 : cod 19 41 = some (.invokevirtual 29, 3, 40, 1, 0, 3) := rfl
theorem e19_41 (t : Nat) (x0 : Nat) (ls : mL) (st : List Value) (σ : mS) (hm : mCat st ≤ 8) : ev 19 41 ls (.ref x0 :: .ref t :: st) σ = isC (σ.1 t) 3 ((evM 40 [.ref t, .ref x0] σ).bind fun z => ev 19 44 ls (z.1.toList ++ st) z.2) := e_callVK k19_41 (by decide) rfl ⟨hm, Nat.le_of_ble_eq_true rfl⟩
theorem k19_44 : cod 19 44 = some (.aload_n 0, 1, 0, 0, 0, 0) := rfl
theorem e19_44 (x : Nat) (ls : mL) (st : List Value) (σ : mS) : ev 19 44 (some (.ref x) :: ls) st σ = ev 19 45 (some (.ref x) :: ls) (.ref x :: st) σ := e_aload1 k19_44 rfl
theorem k19_45 : cod 19 45 = some (.aload_n 1, 1, 0, 0, 0, 0) := rfl
theorem e19_45 (a0 : Option Value) (x : Nat) (ls : mL) (st : List Value) (σ : mS) : ev 19 45 (a0 :: some (.ref x) :: ls) st σ = ev 19 46 (a0 :: some (.ref x) :: ls) (.ref x :: st) σ := e_aload1 k19_45 rfl
theorem k19_46 : cod 19 46 = some (.getfield 33, 3, 0, 4, 0, 0) := rfl
theorem e19_46 (t : Nat) (ls : mL) (st : List Value) (σ : mS) : ev 19 46 ls (.ref t :: st) σ = gfK (σ.1 t) 0 4 (fun v => ev 19 49 ls (v :: st) σ) := e_getf k19_46
theorem k19_49 : cod 19 49 = some (.putfield 33, 3, 0, 4, 0, 0) := rfl
theorem e19_49 (x : Int32) (t : Nat) (ls : mL) (st : List Value) (σ : mS) : ev 19 49 ls (.int x :: .ref t :: st) σ = pfK (σ.1 t) 0 4 (.int x) (fun e => ev 19 52 ls st (mset σ t e)) := e_putI k19_49
theorem k19_52 : cod 19 52 = some (.return_, 1, 0, 0, 0, 0) := rfl
theorem e19_52 (ls : mL) (σ : mS) : ev 19 52 ls [] σ = some (none, σ) := e_vret k19_52 rfl
theorem m19 (t : Nat) (x0 : Nat) (σ : mS) : evM 19 [.ref t, .ref x0] σ = ev 19 0 [some (.ref t), some (.ref x0)] [] σ := rfl
theorem k20_0 : cod 20 0 = some (.iconst 0, 1, 0, 0, 0, 0) := rfl
theorem e20_0 (ls : mL) (st : List Value) (σ : mS) : ev 20 0 ls st σ = ev 20 1 ls (.int 0 :: st) σ := e_iconst 0 k20_0 (by decide)
theorem k20_1 : cod 20 1 = some (.istore_n 1, 1, 0, 0, 0, 0) := rfl
theorem e20_1i (y : Int32) (o : Option Value) (x : Int32) (ls : mL) (st : List Value) (σ : mS) : ev 20 1 (some (.int y) :: o :: ls) (.int x :: st) σ = ev 20 2 (some (.int y) :: some (.int x) :: ls) st σ := e_istore1 k20_1 (Nat.le_add_left 2 ls.length)
theorem e20_1n (o : Option Value) (x : Int32) (ls : mL) (st : List Value) (σ : mS) : ev 20 1 (none :: o :: ls) (.int x :: st) σ = ev 20 2 (none :: some (.int x) :: ls) st σ := e_istore1 k20_1 (Nat.le_add_left 2 ls.length)
theorem e20_1r (y : Nat) (o : Option Value) (x : Int32) (ls : mL) (st : List Value) (σ : mS) : ev 20 1 (some (.ref y) :: o :: ls) (.int x :: st) σ = ev 20 2 (some (.ref y) :: some (.int x) :: ls) st σ := e_istore1 k20_1 (Nat.le_add_left 2 ls.length)
theorem k20_2 : cod 20 2 = some (.iconst 0, 1, 0, 0, 0, 0) := rfl
theorem e20_2 (ls : mL) (st : List Value) (σ : mS) : ev 20 2 ls st σ = ev 20 3 ls (.int 0 :: st) σ := e_iconst 0 k20_2 (by decide)
theorem k20_3 : cod 20 3 = some (.istore_n 2, 1, 0, 0, 0, 0) := rfl
theorem e20_3i (a0 : Option Value) (y : Int32) (o : Option Value) (x : Int32) (ls : mL) (st : List Value) (σ : mS) : ev 20 3 (a0 :: some (.int y) :: o :: ls) (.int x :: st) σ = ev 20 4 (a0 :: some (.int y) :: some (.int x) :: ls) st σ := e_istore1 k20_3 (Nat.le_add_left 3 ls.length)
theorem e20_3n (a0 : Option Value) (o : Option Value) (x : Int32) (ls : mL) (st : List Value) (σ : mS) : ev 20 3 (a0 :: none :: o :: ls) (.int x :: st) σ = ev 20 4 (a0 :: none :: some (.int x) :: ls) st σ := e_istore1 k20_3 (Nat.le_add_left 3 ls.length)
theorem e20_3r (a0 : Option Value) (y : Nat) (o : Option Value) (x : Int32) (ls : mL) (st : List Value) (σ : mS) : ev 20 3 (a0 :: some (.ref y) :: o :: ls) (.int x :: st) σ = ev 20 4 (a0 :: some (.ref y) :: some (.int x) :: ls) st σ := e_istore1 k20_3 (Nat.le_add_left 3 ls.length)
theorem k20_4 : cod 20 4 = some (.iload_n 2, 1, 0, 0, 0, 0) := rfl
theorem e20_4 (a0 a1 : Option Value) (x : Int32) (ls : mL) (st : List Value) (σ : mS) : ev 20 4 (a0 :: a1 :: some (.int x) :: ls) st σ = ev 20 5 (a0 :: a1 :: some (.int x) :: ls) (.int x :: st) σ := e_iload1 k20_4 rfl
theorem k20_5 : cod 20 5 = some (.bipush (20), 2, 0, 0, 0, 0) := rfl
theorem e20_5 (ls : mL) (st : List Value) (σ : mS) : ev 20 5 ls st σ = ev 20 7 ls (.int 20 :: st) σ := e_bipush 20 k20_5 (by decide)
theorem k20_7 : cod 20 7 = some (.if_icmp .ge (25), 3, 32, 0, 0, 0) := rfl
theorem e20_7 (x y : Int32) (ls : mL) (st : List Value) (σ : mS) : ev 20 7 ls (.int y :: .int x :: st) σ = if y ≤ x then ev 20 32 ls st σ else ev 20 10 ls st σ := e_ic_ge k20_7
theorem k20_10 : cod 20 10 = some (.iload_n 1, 1, 0, 0, 0, 0) := rfl
theorem e20_10 (a0 : Option Value) (x : Int32) (ls : mL) (st : List Value) (σ : mS) : ev 20 10 (a0 :: some (.int x) :: ls) st σ = ev 20 11 (a0 :: some (.int x) :: ls) (.int x :: st) σ := e_iload1 k20_10 rfl
theorem k20_11 : cod 20 11 = some (.aload_n 0, 1, 0, 0, 0, 0) := rfl
theorem e20_11 (x : Nat) (ls : mL) (st : List Value) (σ : mS) : ev 20 11 (some (.ref x) :: ls) st σ = ev 20 12 (some (.ref x) :: ls) (.ref x :: st) σ := e_aload1 k20_11 rfl
theorem k20_12 : cod 20 12 = some (.iload_n 2, 1, 0, 0, 0, 0) := rfl
theorem e20_12 (a0 a1 : Option Value) (x : Int32) (ls : mL) (st : List Value) (σ : mS) : ev 20 12 (a0 :: a1 :: some (.int x) :: ls) st σ = ev 20 13 (a0 :: a1 :: some (.int x) :: ls) (.int x :: st) σ := e_iload1 k20_12 rfl
theorem k20_13 : cod 20 13 = some (.invokevirtual 59, 3, 5, 1, 0, 0) := rfl
theorem e20_13 (t : Nat) (x0 : Int32) (ls : mL) (st : List Value) (σ : mS) (hm : mCat st ≤ 8) : ev 20 13 ls (.int x0 :: .ref t :: st) σ = isC (σ.1 t) 0 ((evM 5 [.ref t, .int x0] σ).bind fun z => ev 20 16 ls (z.1.toList ++ st) z.2) := e_callVK k20_13 (by decide) rfl ⟨hm, Nat.le_of_ble_eq_true rfl⟩
theorem k20_16 : cod 20 16 = some (.ifCond .eq (7), 3, 23, 0, 0, 0) := rfl
theorem e20_16 (x : Int32) (ls : mL) (st : List Value) (σ : mS) : ev 20 16 ls (.int x :: st) σ = if x = 0 then ev 20 23 ls st σ else ev 20 19 ls st σ := e_if_eq k20_16
theorem k20_19 : cod 20 19 = some (.iconst 1, 1, 0, 0, 0, 0) := rfl
theorem e20_19 (ls : mL) (st : List Value) (σ : mS) : ev 20 19 ls st σ = ev 20 20 ls (.int 1 :: st) σ := e_iconst 1 k20_19 (by decide)
theorem k20_20 : cod 20 20 = some (.goto (4), 3, 24, 0, 0, 0) := rfl
theorem e20_20 (ls : mL) (st : List Value) (σ : mS) : ev 20 20 ls st σ = ev 20 24 ls st σ := e_goto k20_20
theorem k20_23 : cod 20 23 = some (.iconst 0, 1, 0, 0, 0, 0) := rfl
theorem e20_23 (ls : mL) (st : List Value) (σ : mS) : ev 20 23 ls st σ = ev 20 24 ls (.int 0 :: st) σ := e_iconst 0 k20_23 (by decide)
theorem k20_24 : cod 20 24 = some (.iadd, 1, 0, 0, 0, 0) := rfl
theorem e20_24 (x y : Int32) (ls : mL) (st : List Value) (σ : mS) : ev 20 24 ls (.int y :: .int x :: st) σ = ev 20 25 ls (.int (x + y) :: st) σ := e_iadd k20_24
theorem k20_25 : cod 20 25 = some (.istore_n 1, 1, 0, 0, 0, 0) := rfl
theorem e20_25i (y : Int32) (o : Option Value) (x : Int32) (ls : mL) (st : List Value) (σ : mS) : ev 20 25 (some (.int y) :: o :: ls) (.int x :: st) σ = ev 20 26 (some (.int y) :: some (.int x) :: ls) st σ := e_istore1 k20_25 (Nat.le_add_left 2 ls.length)
theorem e20_25n (o : Option Value) (x : Int32) (ls : mL) (st : List Value) (σ : mS) : ev 20 25 (none :: o :: ls) (.int x :: st) σ = ev 20 26 (none :: some (.int x) :: ls) st σ := e_istore1 k20_25 (Nat.le_add_left 2 ls.length)
theorem e20_25r (y : Nat) (o : Option Value) (x : Int32) (ls : mL) (st : List Value) (σ : mS) : ev 20 25 (some (.ref y) :: o :: ls) (.int x :: st) σ = ev 20 26 (some (.ref y) :: some (.int x) :: ls) st σ := e_istore1 k20_25 (Nat.le_add_left 2 ls.length)
theorem k20_26 : cod 20 26 = some (.iinc 2 (1), 3, 0, 0, 0, 0) := rfl
theorem e20_26i (a0 : Option Value) (y : Int32) (x : Int32) (ls : mL) (st : List Value) (σ : mS) : ev 20 26 (a0 :: some (.int y) :: some (.int x) :: ls) st σ = ev 20 29 (a0 :: some (.int y) :: some (.int (x + 1)) :: ls) st σ := e_iinc 1 k20_26 (by decide) rfl
theorem e20_26n (a0 : Option Value) (x : Int32) (ls : mL) (st : List Value) (σ : mS) : ev 20 26 (a0 :: none :: some (.int x) :: ls) st σ = ev 20 29 (a0 :: none :: some (.int (x + 1)) :: ls) st σ := e_iinc 1 k20_26 (by decide) rfl
theorem e20_26r (a0 : Option Value) (y : Nat) (x : Int32) (ls : mL) (st : List Value) (σ : mS) : ev 20 26 (a0 :: some (.ref y) :: some (.int x) :: ls) st σ = ev 20 29 (a0 :: some (.ref y) :: some (.int (x + 1)) :: ls) st σ := e_iinc 1 k20_26 (by decide) rfl
theorem k20_29 : cod 20 29 = some (.goto (-25), 3, 4, 0, 0, 0) := rfl
theorem e20_29 (ls : mL) (st : List Value) (σ : mS) : ev 20 29 ls st σ = ev 20 4 ls st σ := e_goto k20_29
theorem k20_32 : cod 20 32 = some (.iload_n 1, 1, 0, 0, 0, 0) := rfl
theorem e20_32 (a0 : Option Value) (x : Int32) (ls : mL) (st : List Value) (σ : mS) : ev 20 32 (a0 :: some (.int x) :: ls) st σ = ev 20 33 (a0 :: some (.int x) :: ls) (.int x :: st) σ := e_iload1 k20_32 rfl
theorem k20_33 : cod 20 33 = some (.ireturn, 1, 0, 0, 0, 0) := rfl
theorem e20_33 (x : Int32) (ls : mL) (σ : mS) : ev 20 33 ls [.int x] σ = some (some (.int x), σ) := e_iret k20_33 rfl
theorem m20 (t : Nat) (σ : mS) : evM 20 [.ref t] σ = ev 20 0 [some (.ref t), none, none] [] σ := rfl
theorem k21_0 : cod 21 0 = some (.aload_n 0, 1, 0, 0, 0, 0) := rfl
theorem e21_0 (x : Nat) (ls : mL) (st : List Value) (σ : mS) : ev 21 0 (some (.ref x) :: ls) st σ = ev 21 1 (some (.ref x) :: ls) (.ref x :: st) σ := e_aload1 k21_0 rfl
theorem k21_1 : cod 21 1 = some (.invokespecial 3, 3, 1, 0, 9, 2) := rfl
theorem e21_1 (x : Nat) (ls : mL) (st : List Value) (σ : mS) (hz : mCat st ≤ 8) : ev 21 1 ls (.ref x :: st) σ = ev 21 4 ls st σ := e_objInit k21_1 hz
theorem k21_4 : cod 21 4 = some (.aload_n 0, 1, 0, 0, 0, 0) := rfl
theorem e21_4 (x : Nat) (ls : mL) (st : List Value) (σ : mS) : ev 21 4 (some (.ref x) :: ls) st σ = ev 21 5 (some (.ref x) :: ls) (.ref x :: st) σ := e_aload1 k21_4 rfl
theorem k21_5 : cod 21 5 = some (.new 9, 3, 5, 0, 0, 0) := rfl
theorem e21_5 (ls : mL) (st : List Value) (σ : mS) : ev 21 5 ls st σ = ev 21 8 ls (.ref σ.2.1 :: st) (mnew σ (.inr (5, (ctT 5).map dfv)) (ctT 5).length) := e_new k21_5
theorem k21_8 : cod 21 8 = some (.dup, 1, 0, 0, 0, 0) := rfl
theorem e21_8i (x : Int32) (ls : mL) (st : List Value) (σ : mS) : ev 21 8 ls (.int x :: st) σ = ev 21 9 ls (.int x :: .int x :: st) σ := e_dupI k21_8
theorem e21_8r (x : Nat) (ls : mL) (st : List Value) (σ : mS) : ev 21 8 ls (.ref x :: st) σ = ev 21 9 ls (.ref x :: .ref x :: st) σ := e_dupR k21_8
theorem k21_9 : cod 21 9 = some (.invokespecial 11, 3, 44, 0, 1, 0) := rfl
theorem e21_9 (t : Nat) (ls : mL) (st : List Value) (σ : mS) (hm : mCat st ≤ 8) : ev 21 9 ls (.ref t :: st) σ = (evM 44 [.ref t] σ).bind fun z => ev 21 12 ls (z.1.toList ++ st) z.2 := e_callI k21_9 (by decide) rfl ⟨hm, Nat.le_of_ble_eq_true rfl⟩
theorem k21_12 : cod 21 12 = some (.putfield 12, 3, 1, 0, 2, 3) := rfl
theorem e21_12 (x : Nat) (t : Nat) (ls : mL) (st : List Value) (σ : mS) : ev 21 12 ls (.ref x :: .ref t :: st) σ = pfK (σ.1 t) 1 0 (.ref x) (fun e => ev 21 15 ls st (mset σ t e)) := e_putR k21_12
theorem k21_15 : cod 21 15 = some (.return_, 1, 0, 0, 0, 0) := rfl
theorem e21_15 (ls : mL) (σ : mS) : ev 21 15 ls [] σ = some (none, σ) := e_vret k21_15 rfl
theorem m21 (t : Nat) (σ : mS) : evM 21 [.ref t] σ = ev 21 0 [some (.ref t)] [] σ := rfl
theorem k22_0 : cod 22 0 = some (.aload_n 1, 1, 0, 0, 0, 0) := rfl
theorem e22_0 (a0 : Option Value) (x : Nat) (ls : mL) (st : List Value) (σ : mS) : ev 22 0 (a0 :: some (.ref x) :: ls) st σ = ev 22 1 (a0 :: some (.ref x) :: ls) (.ref x :: st) σ := e_aload1 k22_0 rfl
theorem k22_1 : cod 22 1 = some (.invokevirtual 18, 3, 69, 0, 0, 6) := rfl
theorem e22_1 (t : Nat) (ls : mL) (st : List Value) (σ : mS) (hm : mCat st ≤ 8) : ev 22 1 ls (.ref t :: st) σ = isC (σ.1 t) 6 ((evM 69 [.ref t] σ).bind fun z => ev 22 4 ls (z.1.toList ++ st) z.2) := e_callVK k22_1 (by decide) rfl ⟨hm, Nat.le_of_ble_eq_true rfl⟩
theorem k22_4 : cod 22 4 = some (.aload_n 0, 1, 0, 0, 0, 0) := rfl
theorem e22_4 (x : Nat) (ls : mL) (st : List Value) (σ : mS) : ev 22 4 (some (.ref x) :: ls) st σ = ev 22 5 (some (.ref x) :: ls) (.ref x :: st) σ := e_aload1 k22_4 rfl
theorem k22_5 : cod 22 5 = some (.getfield 12, 3, 1, 0, 0, 3) := rfl
theorem e22_5 (t : Nat) (ls : mL) (st : List Value) (σ : mS) : ev 22 5 ls (.ref t :: st) σ = gfK (σ.1 t) 1 0 (fun v => ev 22 8 ls (v :: st) σ) := e_getf k22_5
theorem k22_8 : cod 22 8 = some (.aload_n 2, 1, 0, 0, 0, 0) := rfl
theorem e22_8 (a0 a1 : Option Value) (x : Nat) (ls : mL) (st : List Value) (σ : mS) : ev 22 8 (a0 :: a1 :: some (.ref x) :: ls) st σ = ev 22 9 (a0 :: a1 :: some (.ref x) :: ls) (.ref x :: st) σ := e_aload1 k22_8 rfl
theorem k22_9 : cod 22 9 = some (.invokevirtual 23, 3, 45, 1, 0, 5) := rfl
theorem e22_9 (t : Nat) (x0 : Nat) (ls : mL) (st : List Value) (σ : mS) (hm : mCat st ≤ 8) : ev 22 9 ls (.ref x0 :: .ref t :: st) σ = isC (σ.1 t) 5 ((evM 45 [.ref t, .ref x0] σ).bind fun z => ev 22 12 ls (z.1.toList ++ st) z.2) := e_callVK k22_9 (by decide) rfl ⟨hm, Nat.le_of_ble_eq_true rfl⟩
theorem k22_12 : cod 22 12 = some (.iconst 0, 1, 0, 0, 0, 0) := rfl
theorem e22_12 (ls : mL) (st : List Value) (σ : mS) : ev 22 12 ls st σ = ev 22 13 ls (.int 0 :: st) σ := e_iconst 0 k22_12 (by decide)
theorem k22_13 : cod 22 13 = some (.istore_n 3, 1, 0, 0, 0, 0) := rfl
theorem e22_13i (a0 a1 : Option Value) (y : Int32) (o : Option Value) (x : Int32) (ls : mL) (st : List Value) (σ : mS) : ev 22 13 (a0 :: a1 :: some (.int y) :: o :: ls) (.int x :: st) σ = ev 22 14 (a0 :: a1 :: some (.int y) :: some (.int x) :: ls) st σ := e_istore1 k22_13 (Nat.le_add_left 4 ls.length)
theorem e22_13n (a0 a1 : Option Value) (o : Option Value) (x : Int32) (ls : mL) (st : List Value) (σ : mS) : ev 22 13 (a0 :: a1 :: none :: o :: ls) (.int x :: st) σ = ev 22 14 (a0 :: a1 :: none :: some (.int x) :: ls) st σ := e_istore1 k22_13 (Nat.le_add_left 4 ls.length)
theorem e22_13r (a0 a1 : Option Value) (y : Nat) (o : Option Value) (x : Int32) (ls : mL) (st : List Value) (σ : mS) : ev 22 13 (a0 :: a1 :: some (.ref y) :: o :: ls) (.int x :: st) σ = ev 22 14 (a0 :: a1 :: some (.ref y) :: some (.int x) :: ls) st σ := e_istore1 k22_13 (Nat.le_add_left 4 ls.length)
theorem k22_14 : cod 22 14 = some (.iload_n 3, 1, 0, 0, 0, 0) := rfl
theorem e22_14 (a0 a1 a2 : Option Value) (x : Int32) (ls : mL) (st : List Value) (σ : mS) : ev 22 14 (a0 :: a1 :: a2 :: some (.int x) :: ls) st σ = ev 22 15 (a0 :: a1 :: a2 :: some (.int x) :: ls) (.int x :: st) σ := e_iload1 k22_14 rfl
theorem k22_15 : cod 22 15 = some (.sipush (600), 3, 0, 0, 0, 0) := rfl
theorem e22_15 (ls : mL) (st : List Value) (σ : mS) : ev 22 15 ls st σ = ev 22 18 ls (.int 600 :: st) σ := e_sipush 600 k22_15 (by decide)
theorem k22_18 : cod 22 18 = some (.if_icmp .gt (38), 3, 56, 0, 0, 0) := rfl
theorem e22_18 (x y : Int32) (ls : mL) (st : List Value) (σ : mS) : ev 22 18 ls (.int y :: .int x :: st) σ = if y < x then ev 22 56 ls st σ else ev 22 21 ls st σ := e_ic_gt k22_18
theorem k22_21 : cod 22 21 = some (.aload_n 0, 1, 0, 0, 0, 0) := rfl
theorem e22_21 (x : Nat) (ls : mL) (st : List Value) (σ : mS) : ev 22 21 (some (.ref x) :: ls) st σ = ev 22 22 (some (.ref x) :: ls) (.ref x :: st) σ := e_aload1 k22_21 rfl
theorem k22_22 : cod 22 22 = some (.getfield 12, 3, 1, 0, 0, 3) := rfl
theorem e22_22 (t : Nat) (ls : mL) (st : List Value) (σ : mS) : ev 22 22 ls (.ref t :: st) σ = gfK (σ.1 t) 1 0 (fun v => ev 22 25 ls (v :: st) σ) := e_getf k22_22
theorem k22_25 : cod 22 25 = some (.invokevirtual 27, 3, 53, 0, 0, 5) := rfl
theorem e22_25 (t : Nat) (ls : mL) (st : List Value) (σ : mS) (hm : mCat st ≤ 8) : ev 22 25 ls (.ref t :: st) σ = isC (σ.1 t) 5 ((evM 53 [.ref t] σ).bind fun z => ev 22 28 ls (z.1.toList ++ st) z.2) := e_callVK k22_25 (by decide) rfl ⟨hm, Nat.le_of_ble_eq_true rfl⟩
theorem k22_28 : cod 22 28 = some (.ifCond .ne (6), 3, 34, 0, 0, 0) := rfl
theorem e22_28 (x : Int32) (ls : mL) (st : List Value) (σ : mS) : ev 22 28 ls (.int x :: st) σ = if x = 0 then ev 22 31 ls st σ else ev 22 34 ls st σ := e_if_ne k22_28
theorem k22_31 : cod 22 31 = some (.bipush (-9), 2, 0, 0, 0, 0) := rfl
theorem e22_31 (ls : mL) (st : List Value) (σ : mS) : ev 22 31 ls st σ = ev 22 33 ls (.int (-9) :: st) σ := e_bipush (-9) k22_31 (by decide)
theorem k22_33 : cod 22 33 = some (.ireturn, 1, 0, 0, 0, 0) := rfl
theorem e22_33 (x : Int32) (ls : mL) (σ : mS) : ev 22 33 ls [.int x] σ = some (some (.int x), σ) := e_iret k22_33 rfl
theorem k22_34 : cod 22 34 = some (.aload_n 0, 1, 0, 0, 0, 0) := rfl
theorem e22_34 (x : Nat) (ls : mL) (st : List Value) (σ : mS) : ev 22 34 (some (.ref x) :: ls) st σ = ev 22 35 (some (.ref x) :: ls) (.ref x :: st) σ := e_aload1 k22_34 rfl
theorem k22_35 : cod 22 35 = some (.aload_n 1, 1, 0, 0, 0, 0) := rfl
theorem e22_35 (a0 : Option Value) (x : Nat) (ls : mL) (st : List Value) (σ : mS) : ev 22 35 (a0 :: some (.ref x) :: ls) st σ = ev 22 36 (a0 :: some (.ref x) :: ls) (.ref x :: st) σ := e_aload1 k22_35 rfl
theorem k22_36 : cod 22 36 = some (.invokevirtual 31, 3, 23, 1, 0, 1) := rfl
theorem e22_36 (t : Nat) (x0 : Nat) (ls : mL) (st : List Value) (σ : mS) (hm : mCat st ≤ 8) : ev 22 36 ls (.ref x0 :: .ref t :: st) σ = isC (σ.1 t) 1 ((evM 23 [.ref t, .ref x0] σ).bind fun z => ev 22 39 ls (z.1.toList ++ st) z.2) := e_callVK k22_36 (by decide) rfl ⟨hm, Nat.le_of_ble_eq_true rfl⟩
theorem k22_39 : cod 22 39 = some (.ifCond .ne (11), 3, 50, 0, 0, 0) := rfl
theorem e22_39 (x : Int32) (ls : mL) (st : List Value) (σ : mS) : ev 22 39 ls (.int x :: st) σ = if x = 0 then ev 22 42 ls st σ else ev 22 50 ls st σ := e_if_ne k22_39
theorem k22_42 : cod 22 42 = some (.aload_n 0, 1, 0, 0, 0, 0) := rfl
theorem e22_42 (x : Nat) (ls : mL) (st : List Value) (σ : mS) : ev 22 42 (some (.ref x) :: ls) st σ = ev 22 43 (some (.ref x) :: ls) (.ref x :: st) σ := e_aload1 k22_42 rfl
theorem k22_43 : cod 22 43 = some (.getfield 12, 3, 1, 0, 0, 3) := rfl
theorem e22_43 (t : Nat) (ls : mL) (st : List Value) (σ : mS) : ev 22 43 ls (.ref t :: st) σ = gfK (σ.1 t) 1 0 (fun v => ev 22 46 ls (v :: st) σ) := e_getf k22_43
theorem k22_46 : cod 22 46 = some (.invokevirtual 35, 3, 57, 0, 0, 5) := rfl
theorem e22_46 (t : Nat) (ls : mL) (st : List Value) (σ : mS) (hm : mCat st ≤ 8) : ev 22 46 ls (.ref t :: st) σ = isC (σ.1 t) 5 ((evM 57 [.ref t] σ).bind fun z => ev 22 49 ls (z.1.toList ++ st) z.2) := e_callVK k22_46 (by decide) rfl ⟨hm, Nat.le_of_ble_eq_true rfl⟩
theorem k22_49 : cod 22 49 = some (.ireturn, 1, 0, 0, 0, 0) := rfl
theorem e22_49 (x : Int32) (ls : mL) (σ : mS) : ev 22 49 ls [.int x] σ = some (some (.int x), σ) := e_iret k22_49 rfl
theorem k22_50 : cod 22 50 = some (.iinc 3 (1), 3, 0, 0, 0, 0) := rfl
theorem e22_50i (a0 a1 : Option Value) (y : Int32) (x : Int32) (ls : mL) (st : List Value) (σ : mS) : ev 22 50 (a0 :: a1 :: some (.int y) :: some (.int x) :: ls) st σ = ev 22 53 (a0 :: a1 :: some (.int y) :: some (.int (x + 1)) :: ls) st σ := e_iinc 1 k22_50 (by decide) rfl
theorem e22_50n (a0 a1 : Option Value) (x : Int32) (ls : mL) (st : List Value) (σ : mS) : ev 22 50 (a0 :: a1 :: none :: some (.int x) :: ls) st σ = ev 22 53 (a0 :: a1 :: none :: some (.int (x + 1)) :: ls) st σ := e_iinc 1 k22_50 (by decide) rfl
theorem e22_50r (a0 a1 : Option Value) (y : Nat) (x : Int32) (ls : mL) (st : List Value) (σ : mS) : ev 22 50 (a0 :: a1 :: some (.ref y) :: some (.int x) :: ls) st σ = ev 22 53 (a0 :: a1 :: some (.ref y) :: some (.int (x + 1)) :: ls) st σ := e_iinc 1 k22_50 (by decide) rfl
theorem k22_53 : cod 22 53 = some (.goto (-39), 3, 14, 0, 0, 0) := rfl
theorem e22_53 (ls : mL) (st : List Value) (σ : mS) : ev 22 53 ls st σ = ev 22 14 ls st σ := e_goto k22_53
theorem k22_56 : cod 22 56 = some (.aload_n 0, 1, 0, 0, 0, 0) := rfl
theorem e22_56 (x : Nat) (ls : mL) (st : List Value) (σ : mS) : ev 22 56 (some (.ref x) :: ls) st σ = ev 22 57 (some (.ref x) :: ls) (.ref x :: st) σ := e_aload1 k22_56 rfl
theorem k22_57 : cod 22 57 = some (.getfield 12, 3, 1, 0, 0, 3) := rfl
theorem e22_57 (t : Nat) (ls : mL) (st : List Value) (σ : mS) : ev 22 57 ls (.ref t :: st) σ = gfK (σ.1 t) 1 0 (fun v => ev 22 60 ls (v :: st) σ) := e_getf k22_57
theorem k22_60 : cod 22 60 = some (.invokevirtual 35, 3, 57, 0, 0, 5) := rfl
theorem e22_60 (t : Nat) (ls : mL) (st : List Value) (σ : mS) (hm : mCat st ≤ 8) : ev 22 60 ls (.ref t :: st) σ = isC (σ.1 t) 5 ((evM 57 [.ref t] σ).bind fun z => ev 22 63 ls (z.1.toList ++ st) z.2) := e_callVK k22_60 (by decide) rfl ⟨hm, Nat.le_of_ble_eq_true rfl⟩
theorem k22_63 : cod 22 63 = some (.ireturn, 1, 0, 0, 0, 0) := rfl
theorem e22_63 (x : Int32) (ls : mL) (σ : mS) : ev 22 63 ls [.int x] σ = some (some (.int x), σ) := e_iret k22_63 rfl
theorem m22 (t : Nat) (x0 : Nat) (x1 : Nat) (σ : mS) : evM 22 [.ref t, .ref x0, .ref x1] σ = ev 22 0 [some (.ref t), some (.ref x0), some (.ref x1), none] [] σ := rfl
theorem k23_0 : cod 23 0 = some (.aload_n 0, 1, 0, 0, 0, 0) := rfl
theorem e23_0 (x : Nat) (ls : mL) (st : List Value) (σ : mS) : ev 23 0 (some (.ref x) :: ls) st σ = ev 23 1 (some (.ref x) :: ls) (.ref x :: st) σ := e_aload1 k23_0 rfl
theorem k23_1 : cod 23 1 = some (.getfield 12, 3, 1, 0, 0, 3) := rfl
theorem e23_1 (t : Nat) (ls : mL) (st : List Value) (σ : mS) : ev 23 1 ls (.ref t :: st) σ = gfK (σ.1 t) 1 0 (fun v => ev 23 4 ls (v :: st) σ) := e_getf k23_1
theorem k23_4 : cod 23 4 = some (.invokevirtual 27, 3, 53, 0, 0, 5) := rfl
theorem e23_4 (t : Nat) (ls : mL) (st : List Value) (σ : mS) (hm : mCat st ≤ 8) : ev 23 4 ls (.ref t :: st) σ = isC (σ.1 t) 5 ((evM 53 [.ref t] σ).bind fun z => ev 23 7 ls (z.1.toList ++ st) z.2) := e_callVK k23_4 (by decide) rfl ⟨hm, Nat.le_of_ble_eq_true rfl⟩
theorem k23_7 : cod 23 7 = some (.tableswitch (55) (1) (6) #[37, 55, 43, 43, 43, 49], 37, 0, 0, 0, 0) := rfl
theorem e23_7 (x : Int32) (ls : mL) (st : List Value) (σ : mS) : ev 23 7 ls (.int x :: st) σ = if x = 1 then ev 23 44 ls st σ else if x = 2 then ev 23 62 ls st σ else if x = 3 then ev 23 50 ls st σ else if x = 4 then ev 23 50 ls st σ else if x = 5 then ev 23 50 ls st σ else if x = 6 then ev 23 56 ls st σ else ev 23 62 ls st σ := by
  rw [e_sw k23_7]
  by_cases h0 : x = 1
  · subst h0; rfl
  rw [if_neg h0]
  by_cases h1 : x = 2
  · subst h1; rfl
  rw [if_neg h1]
  by_cases h2 : x = 3
  · subst h2; rfl
  rw [if_neg h2]
  by_cases h3 : x = 4
  · subst h3; rfl
  rw [if_neg h3]
  by_cases h4 : x = 5
  · subst h4; rfl
  rw [if_neg h4]
  by_cases h5 : x = 6
  · subst h5; rfl
  rw [if_neg h5]
  rw [swT_out (n := 6) (df := 55) (lo := 1) (hi := 6) (off := #[37, 55, 43, 43, 43, 49]) rfl rfl (by intro j hj; match j, hj with
    | 0, _ => exact h0
    | 1, _ => exact h1
    | 2, _ => exact h2
    | 3, _ => exact h3
    | 4, _ => exact h4
    | 5, _ => exact h5
    | j + 6, hj => exact absurd hj (by omega))]
  rfl
theorem k23_44 : cod 23 44 = some (.aload_n 0, 1, 0, 0, 0, 0) := rfl
theorem e23_44 (x : Nat) (ls : mL) (st : List Value) (σ : mS) : ev 23 44 (some (.ref x) :: ls) st σ = ev 23 45 (some (.ref x) :: ls) (.ref x :: st) σ := e_aload1 k23_44 rfl
theorem k23_45 : cod 23 45 = some (.aload_n 1, 1, 0, 0, 0, 0) := rfl
theorem e23_45 (a0 : Option Value) (x : Nat) (ls : mL) (st : List Value) (σ : mS) : ev 23 45 (a0 :: some (.ref x) :: ls) st σ = ev 23 46 (a0 :: some (.ref x) :: ls) (.ref x :: st) σ := e_aload1 k23_45 rfl
theorem k23_46 : cod 23 46 = some (.invokevirtual 38, 3, 24, 1, 0, 1) := rfl
theorem e23_46 (t : Nat) (x0 : Nat) (ls : mL) (st : List Value) (σ : mS) (hm : mCat st ≤ 8) : ev 23 46 ls (.ref x0 :: .ref t :: st) σ = isC (σ.1 t) 1 ((evM 24 [.ref t, .ref x0] σ).bind fun z => ev 23 49 ls (z.1.toList ++ st) z.2) := e_callVK k23_46 (by decide) rfl ⟨hm, Nat.le_of_ble_eq_true rfl⟩
theorem k23_49 : cod 23 49 = some (.ireturn, 1, 0, 0, 0, 0) := rfl
theorem e23_49 (x : Int32) (ls : mL) (σ : mS) : ev 23 49 ls [.int x] σ = if x = 0 ∨ x = 1 then some (some (.int x), σ) else none := e_zret k23_49 rfl
theorem e23_49b0 (ls : mL) (σ : mS) : ev 23 49 ls [.int 0] σ = some (some (.int 0), σ) := (e_zret k23_49 rfl).trans (if_pos (Or.inl rfl))
theorem e23_49b1 (ls : mL) (σ : mS) : ev 23 49 ls [.int 1] σ = some (some (.int 1), σ) := (e_zret k23_49 rfl).trans (if_pos (Or.inr rfl))
theorem k23_50 : cod 23 50 = some (.aload_n 0, 1, 0, 0, 0, 0) := rfl
theorem e23_50 (x : Nat) (ls : mL) (st : List Value) (σ : mS) : ev 23 50 (some (.ref x) :: ls) st σ = ev 23 51 (some (.ref x) :: ls) (.ref x :: st) σ := e_aload1 k23_50 rfl
theorem k23_51 : cod 23 51 = some (.aload_n 1, 1, 0, 0, 0, 0) := rfl
theorem e23_51 (a0 : Option Value) (x : Nat) (ls : mL) (st : List Value) (σ : mS) : ev 23 51 (a0 :: some (.ref x) :: ls) st σ = ev 23 52 (a0 :: some (.ref x) :: ls) (.ref x :: st) σ := e_aload1 k23_51 rfl
theorem k23_52 : cod 23 52 = some (.invokevirtual 41, 3, 25, 1, 0, 1) := rfl
theorem e23_52 (t : Nat) (x0 : Nat) (ls : mL) (st : List Value) (σ : mS) (hm : mCat st ≤ 8) : ev 23 52 ls (.ref x0 :: .ref t :: st) σ = isC (σ.1 t) 1 ((evM 25 [.ref t, .ref x0] σ).bind fun z => ev 23 55 ls (z.1.toList ++ st) z.2) := e_callVK k23_52 (by decide) rfl ⟨hm, Nat.le_of_ble_eq_true rfl⟩
theorem k23_55 : cod 23 55 = some (.ireturn, 1, 0, 0, 0, 0) := rfl
theorem e23_55 (x : Int32) (ls : mL) (σ : mS) : ev 23 55 ls [.int x] σ = if x = 0 ∨ x = 1 then some (some (.int x), σ) else none := e_zret k23_55 rfl
theorem e23_55b0 (ls : mL) (σ : mS) : ev 23 55 ls [.int 0] σ = some (some (.int 0), σ) := (e_zret k23_55 rfl).trans (if_pos (Or.inl rfl))
theorem e23_55b1 (ls : mL) (σ : mS) : ev 23 55 ls [.int 1] σ = some (some (.int 1), σ) := (e_zret k23_55 rfl).trans (if_pos (Or.inr rfl))
theorem k23_56 : cod 23 56 = some (.aload_n 0, 1, 0, 0, 0, 0) := rfl
theorem e23_56 (x : Nat) (ls : mL) (st : List Value) (σ : mS) : ev 23 56 (some (.ref x) :: ls) st σ = ev 23 57 (some (.ref x) :: ls) (.ref x :: st) σ := e_aload1 k23_56 rfl
theorem k23_57 : cod 23 57 = some (.aload_n 1, 1, 0, 0, 0, 0) := rfl
theorem e23_57 (a0 : Option Value) (x : Nat) (ls : mL) (st : List Value) (σ : mS) : ev 23 57 (a0 :: some (.ref x) :: ls) st σ = ev 23 58 (a0 :: some (.ref x) :: ls) (.ref x :: st) σ := e_aload1 k23_57 rfl
theorem k23_58 : cod 23 58 = some (.invokevirtual 44, 3, 26, 1, 0, 1) := rfl
theorem e23_58 (t : Nat) (x0 : Nat) (ls : mL) (st : List Value) (σ : mS) (hm : mCat st ≤ 8) : ev 23 58 ls (.ref x0 :: .ref t :: st) σ = isC (σ.1 t) 1 ((evM 26 [.ref t, .ref x0] σ).bind fun z => ev 23 61 ls (z.1.toList ++ st) z.2) := e_callVK k23_58 (by decide) rfl ⟨hm, Nat.le_of_ble_eq_true rfl⟩
theorem k23_61 : cod 23 61 = some (.ireturn, 1, 0, 0, 0, 0) := rfl
theorem e23_61 (x : Int32) (ls : mL) (σ : mS) : ev 23 61 ls [.int x] σ = if x = 0 ∨ x = 1 then some (some (.int x), σ) else none := e_zret k23_61 rfl
theorem e23_61b0 (ls : mL) (σ : mS) : ev 23 61 ls [.int 0] σ = some (some (.int 0), σ) := (e_zret k23_61 rfl).trans (if_pos (Or.inl rfl))
theorem e23_61b1 (ls : mL) (σ : mS) : ev 23 61 ls [.int 1] σ = some (some (.int 1), σ) := (e_zret k23_61 rfl).trans (if_pos (Or.inr rfl))
theorem k23_62 : cod 23 62 = some (.iconst 0, 1, 0, 0, 0, 0) := rfl
theorem e23_62 (ls : mL) (st : List Value) (σ : mS) : ev 23 62 ls st σ = ev 23 63 ls (.int 0 :: st) σ := e_iconst 0 k23_62 (by decide)
theorem k23_63 : cod 23 63 = some (.ireturn, 1, 0, 0, 0, 0) := rfl
theorem e23_63 (x : Int32) (ls : mL) (σ : mS) : ev 23 63 ls [.int x] σ = if x = 0 ∨ x = 1 then some (some (.int x), σ) else none := e_zret k23_63 rfl
theorem e23_63b0 (ls : mL) (σ : mS) : ev 23 63 ls [.int 0] σ = some (some (.int 0), σ) := (e_zret k23_63 rfl).trans (if_pos (Or.inl rfl))
theorem e23_63b1 (ls : mL) (σ : mS) : ev 23 63 ls [.int 1] σ = some (some (.int 1), σ) := (e_zret k23_63 rfl).trans (if_pos (Or.inr rfl))
theorem m23 (t : Nat) (x0 : Nat) (σ : mS) : evM 23 [.ref t, .ref x0] σ = ev 23 0 [some (.ref t), some (.ref x0)] [] σ := rfl
theorem k24_0 : cod 24 0 = some (.aload_n 1, 1, 0, 0, 0, 0) := rfl
theorem e24_0 (a0 : Option Value) (x : Nat) (ls : mL) (st : List Value) (σ : mS) : ev 24 0 (a0 :: some (.ref x) :: ls) st σ = ev 24 1 (a0 :: some (.ref x) :: ls) (.ref x :: st) σ := e_aload1 k24_0 rfl
theorem k24_1 : cod 24 1 = some (.getfield 47, 3, 6, 5, 1, 0) := rfl
theorem e24_1 (t : Nat) (ls : mL) (st : List Value) (σ : mS) : ev 24 1 ls (.ref t :: st) σ = gfK (σ.1 t) 6 5 (fun v => ev 24 4 ls (v :: st) σ) := e_getf k24_1
theorem k24_4 : cod 24 4 = some (.bipush (60), 2, 0, 0, 0, 0) := rfl
theorem e24_4 (ls : mL) (st : List Value) (σ : mS) : ev 24 4 ls st σ = ev 24 6 ls (.int 60 :: st) σ := e_bipush 60 k24_4 (by decide)
theorem k24_6 : cod 24 6 = some (.if_icmp .lt (5), 3, 11, 0, 0, 0) := rfl
theorem e24_6 (x y : Int32) (ls : mL) (st : List Value) (σ : mS) : ev 24 6 ls (.int y :: .int x :: st) σ = if x < y then ev 24 11 ls st σ else ev 24 9 ls st σ := e_ic_lt k24_6
theorem k24_9 : cod 24 9 = some (.iconst 0, 1, 0, 0, 0, 0) := rfl
theorem e24_9 (ls : mL) (st : List Value) (σ : mS) : ev 24 9 ls st σ = ev 24 10 ls (.int 0 :: st) σ := e_iconst 0 k24_9 (by decide)
theorem k24_10 : cod 24 10 = some (.ireturn, 1, 0, 0, 0, 0) := rfl
theorem e24_10 (x : Int32) (ls : mL) (σ : mS) : ev 24 10 ls [.int x] σ = if x = 0 ∨ x = 1 then some (some (.int x), σ) else none := e_zret k24_10 rfl
theorem e24_10b0 (ls : mL) (σ : mS) : ev 24 10 ls [.int 0] σ = some (some (.int 0), σ) := (e_zret k24_10 rfl).trans (if_pos (Or.inl rfl))
theorem e24_10b1 (ls : mL) (σ : mS) : ev 24 10 ls [.int 1] σ = some (some (.int 1), σ) := (e_zret k24_10 rfl).trans (if_pos (Or.inr rfl))
theorem k24_11 : cod 24 11 = some (.aload_n 0, 1, 0, 0, 0, 0) := rfl
theorem e24_11 (x : Nat) (ls : mL) (st : List Value) (σ : mS) : ev 24 11 (some (.ref x) :: ls) st σ = ev 24 12 (some (.ref x) :: ls) (.ref x :: st) σ := e_aload1 k24_11 rfl
theorem k24_12 : cod 24 12 = some (.getfield 12, 3, 1, 0, 0, 3) := rfl
theorem e24_12 (t : Nat) (ls : mL) (st : List Value) (σ : mS) : ev 24 12 ls (.ref t :: st) σ = gfK (σ.1 t) 1 0 (fun v => ev 24 15 ls (v :: st) σ) := e_getf k24_12
theorem k24_15 : cod 24 15 = some (.invokevirtual 51, 3, 54, 0, 0, 5) := rfl
theorem e24_15 (t : Nat) (ls : mL) (st : List Value) (σ : mS) (hm : mCat st ≤ 8) : ev 24 15 ls (.ref t :: st) σ = isC (σ.1 t) 5 ((evM 54 [.ref t] σ).bind fun z => ev 24 18 ls (z.1.toList ++ st) z.2) := e_callVK k24_15 (by decide) rfl ⟨hm, Nat.le_of_ble_eq_true rfl⟩
theorem k24_18 : cod 24 18 = some (.istore_n 2, 1, 0, 0, 0, 0) := rfl
theorem e24_18i (a0 : Option Value) (y : Int32) (o : Option Value) (x : Int32) (ls : mL) (st : List Value) (σ : mS) : ev 24 18 (a0 :: some (.int y) :: o :: ls) (.int x :: st) σ = ev 24 19 (a0 :: some (.int y) :: some (.int x) :: ls) st σ := e_istore1 k24_18 (Nat.le_add_left 3 ls.length)
theorem e24_18n (a0 : Option Value) (o : Option Value) (x : Int32) (ls : mL) (st : List Value) (σ : mS) : ev 24 18 (a0 :: none :: o :: ls) (.int x :: st) σ = ev 24 19 (a0 :: none :: some (.int x) :: ls) st σ := e_istore1 k24_18 (Nat.le_add_left 3 ls.length)
theorem e24_18r (a0 : Option Value) (y : Nat) (o : Option Value) (x : Int32) (ls : mL) (st : List Value) (σ : mS) : ev 24 18 (a0 :: some (.ref y) :: o :: ls) (.int x :: st) σ = ev 24 19 (a0 :: some (.ref y) :: some (.int x) :: ls) st σ := e_istore1 k24_18 (Nat.le_add_left 3 ls.length)
theorem k24_19 : cod 24 19 = some (.aload_n 0, 1, 0, 0, 0, 0) := rfl
theorem e24_19 (x : Nat) (ls : mL) (st : List Value) (σ : mS) : ev 24 19 (some (.ref x) :: ls) st σ = ev 24 20 (some (.ref x) :: ls) (.ref x :: st) σ := e_aload1 k24_19 rfl
theorem k24_20 : cod 24 20 = some (.getfield 12, 3, 1, 0, 0, 3) := rfl
theorem e24_20 (t : Nat) (ls : mL) (st : List Value) (σ : mS) : ev 24 20 ls (.ref t :: st) σ = gfK (σ.1 t) 1 0 (fun v => ev 24 23 ls (v :: st) σ) := e_getf k24_20
theorem k24_23 : cod 24 23 = some (.invokevirtual 54, 3, 55, 0, 0, 5) := rfl
theorem e24_23 (t : Nat) (ls : mL) (st : List Value) (σ : mS) (hm : mCat st ≤ 8) : ev 24 23 ls (.ref t :: st) σ = isC (σ.1 t) 5 ((evM 55 [.ref t] σ).bind fun z => ev 24 26 ls (z.1.toList ++ st) z.2) := e_callVK k24_23 (by decide) rfl ⟨hm, Nat.le_of_ble_eq_true rfl⟩
theorem k24_26 : cod 24 26 = some (.aload_n 0, 1, 0, 0, 0, 0) := rfl
theorem e24_26 (x : Nat) (ls : mL) (st : List Value) (σ : mS) : ev 24 26 (some (.ref x) :: ls) st σ = ev 24 27 (some (.ref x) :: ls) (.ref x :: st) σ := e_aload1 k24_26 rfl
theorem k24_27 : cod 24 27 = some (.getfield 12, 3, 1, 0, 0, 3) := rfl
theorem e24_27 (t : Nat) (ls : mL) (st : List Value) (σ : mS) : ev 24 27 ls (.ref t :: st) σ = gfK (σ.1 t) 1 0 (fun v => ev 24 30 ls (v :: st) σ) := e_getf k24_27
theorem k24_30 : cod 24 30 = some (.invokevirtual 51, 3, 54, 0, 0, 5) := rfl
theorem e24_30 (t : Nat) (ls : mL) (st : List Value) (σ : mS) (hm : mCat st ≤ 8) : ev 24 30 ls (.ref t :: st) σ = isC (σ.1 t) 5 ((evM 54 [.ref t] σ).bind fun z => ev 24 33 ls (z.1.toList ++ st) z.2) := e_callVK k24_30 (by decide) rfl ⟨hm, Nat.le_of_ble_eq_true rfl⟩
theorem k24_33 : cod 24 33 = some (.istore_n 3, 1, 0, 0, 0, 0) := rfl
theorem e24_33i (a0 a1 : Option Value) (y : Int32) (o : Option Value) (x : Int32) (ls : mL) (st : List Value) (σ : mS) : ev 24 33 (a0 :: a1 :: some (.int y) :: o :: ls) (.int x :: st) σ = ev 24 34 (a0 :: a1 :: some (.int y) :: some (.int x) :: ls) st σ := e_istore1 k24_33 (Nat.le_add_left 4 ls.length)
theorem e24_33n (a0 a1 : Option Value) (o : Option Value) (x : Int32) (ls : mL) (st : List Value) (σ : mS) : ev 24 33 (a0 :: a1 :: none :: o :: ls) (.int x :: st) σ = ev 24 34 (a0 :: a1 :: none :: some (.int x) :: ls) st σ := e_istore1 k24_33 (Nat.le_add_left 4 ls.length)
theorem e24_33r (a0 a1 : Option Value) (y : Nat) (o : Option Value) (x : Int32) (ls : mL) (st : List Value) (σ : mS) : ev 24 33 (a0 :: a1 :: some (.ref y) :: o :: ls) (.int x :: st) σ = ev 24 34 (a0 :: a1 :: some (.ref y) :: some (.int x) :: ls) st σ := e_istore1 k24_33 (Nat.le_add_left 4 ls.length)
theorem k24_34 : cod 24 34 = some (.aload_n 0, 1, 0, 0, 0, 0) := rfl
theorem e24_34 (x : Nat) (ls : mL) (st : List Value) (σ : mS) : ev 24 34 (some (.ref x) :: ls) st σ = ev 24 35 (some (.ref x) :: ls) (.ref x :: st) σ := e_aload1 k24_34 rfl
theorem k24_35 : cod 24 35 = some (.getfield 12, 3, 1, 0, 0, 3) := rfl
theorem e24_35 (t : Nat) (ls : mL) (st : List Value) (σ : mS) : ev 24 35 ls (.ref t :: st) σ = gfK (σ.1 t) 1 0 (fun v => ev 24 38 ls (v :: st) σ) := e_getf k24_35
theorem k24_38 : cod 24 38 = some (.invokevirtual 27, 3, 53, 0, 0, 5) := rfl
theorem e24_38 (t : Nat) (ls : mL) (st : List Value) (σ : mS) (hm : mCat st ≤ 8) : ev 24 38 ls (.ref t :: st) σ = isC (σ.1 t) 5 ((evM 53 [.ref t] σ).bind fun z => ev 24 41 ls (z.1.toList ++ st) z.2) := e_callVK k24_38 (by decide) rfl ⟨hm, Nat.le_of_ble_eq_true rfl⟩
theorem k24_41 : cod 24 41 = some (.iconst 2, 1, 0, 0, 0, 0) := rfl
theorem e24_41 (ls : mL) (st : List Value) (σ : mS) : ev 24 41 ls st σ = ev 24 42 ls (.int 2 :: st) σ := e_iconst 2 k24_41 (by decide)
theorem k24_42 : cod 24 42 = some (.if_icmp .ne (12), 3, 54, 0, 0, 0) := rfl
theorem e24_42 (x y : Int32) (ls : mL) (st : List Value) (σ : mS) : ev 24 42 ls (.int y :: .int x :: st) σ = if x = y then ev 24 45 ls st σ else ev 24 54 ls st σ := e_ic_ne k24_42
theorem k24_45 : cod 24 45 = some (.aload_n 1, 1, 0, 0, 0, 0) := rfl
theorem e24_45 (a0 : Option Value) (x : Nat) (ls : mL) (st : List Value) (σ : mS) : ev 24 45 (a0 :: some (.ref x) :: ls) st σ = ev 24 46 (a0 :: some (.ref x) :: ls) (.ref x :: st) σ := e_aload1 k24_45 rfl
theorem k24_46 : cod 24 46 = some (.iload_n 2, 1, 0, 0, 0, 0) := rfl
theorem e24_46 (a0 a1 : Option Value) (x : Int32) (ls : mL) (st : List Value) (σ : mS) : ev 24 46 (a0 :: a1 :: some (.int x) :: ls) st σ = ev 24 47 (a0 :: a1 :: some (.int x) :: ls) (.int x :: st) σ := e_iload1 k24_46 rfl
theorem k24_47 : cod 24 47 = some (.iload_n 3, 1, 0, 0, 0, 0) := rfl
theorem e24_47 (a0 a1 a2 : Option Value) (x : Int32) (ls : mL) (st : List Value) (σ : mS) : ev 24 47 (a0 :: a1 :: a2 :: some (.int x) :: ls) st σ = ev 24 48 (a0 :: a1 :: a2 :: some (.int x) :: ls) (.int x :: st) σ := e_iload1 k24_47 rfl
theorem k24_48 : cod 24 48 = some (.invokevirtual 57, 3, 62, 2, 0, 6) := rfl
theorem e24_48 (t : Nat) (x0 : Int32) (x1 : Int32) (ls : mL) (st : List Value) (σ : mS) (hm : mCat st ≤ 8) : ev 24 48 ls (.int x1 :: .int x0 :: .ref t :: st) σ = isC (σ.1 t) 6 ((evM 62 [.ref t, .int x0, .int x1] σ).bind fun z => ev 24 51 ls (z.1.toList ++ st) z.2) := e_callVK k24_48 (by decide) rfl ⟨hm, Nat.le_of_ble_eq_true rfl⟩
theorem k24_51 : cod 24 51 = some (.ifCond .le (5), 3, 56, 0, 0, 0) := rfl
theorem e24_51 (x : Int32) (ls : mL) (st : List Value) (σ : mS) : ev 24 51 ls (.int x :: st) σ = if x ≤ 0 then ev 24 56 ls st σ else ev 24 54 ls st σ := e_if_le k24_51
theorem k24_54 : cod 24 54 = some (.iconst 0, 1, 0, 0, 0, 0) := rfl
theorem e24_54 (ls : mL) (st : List Value) (σ : mS) : ev 24 54 ls st σ = ev 24 55 ls (.int 0 :: st) σ := e_iconst 0 k24_54 (by decide)
theorem k24_55 : cod 24 55 = some (.ireturn, 1, 0, 0, 0, 0) := rfl
theorem e24_55 (x : Int32) (ls : mL) (σ : mS) : ev 24 55 ls [.int x] σ = if x = 0 ∨ x = 1 then some (some (.int x), σ) else none := e_zret k24_55 rfl
theorem e24_55b0 (ls : mL) (σ : mS) : ev 24 55 ls [.int 0] σ = some (some (.int 0), σ) := (e_zret k24_55 rfl).trans (if_pos (Or.inl rfl))
theorem e24_55b1 (ls : mL) (σ : mS) : ev 24 55 ls [.int 1] σ = some (some (.int 1), σ) := (e_zret k24_55 rfl).trans (if_pos (Or.inr rfl))
theorem k24_56 : cod 24 56 = some (.aload_n 0, 1, 0, 0, 0, 0) := rfl
theorem e24_56 (x : Nat) (ls : mL) (st : List Value) (σ : mS) : ev 24 56 (some (.ref x) :: ls) st σ = ev 24 57 (some (.ref x) :: ls) (.ref x :: st) σ := e_aload1 k24_56 rfl
theorem k24_57 : cod 24 57 = some (.getfield 12, 3, 1, 0, 0, 3) := rfl
theorem e24_57 (t : Nat) (ls : mL) (st : List Value) (σ : mS) : ev 24 57 ls (.ref t :: st) σ = gfK (σ.1 t) 1 0 (fun v => ev 24 60 ls (v :: st) σ) := e_getf k24_57
theorem k24_60 : cod 24 60 = some (.invokevirtual 54, 3, 55, 0, 0, 5) := rfl
theorem e24_60 (t : Nat) (ls : mL) (st : List Value) (σ : mS) (hm : mCat st ≤ 8) : ev 24 60 ls (.ref t :: st) σ = isC (σ.1 t) 5 ((evM 55 [.ref t] σ).bind fun z => ev 24 63 ls (z.1.toList ++ st) z.2) := e_callVK k24_60 (by decide) rfl ⟨hm, Nat.le_of_ble_eq_true rfl⟩
theorem k24_63 : cod 24 63 = some (.aload_n 0, 1, 0, 0, 0, 0) := rfl
theorem e24_63 (x : Nat) (ls : mL) (st : List Value) (σ : mS) : ev 24 63 (some (.ref x) :: ls) st σ = ev 24 64 (some (.ref x) :: ls) (.ref x :: st) σ := e_aload1 k24_63 rfl
theorem k24_64 : cod 24 64 = some (.getfield 12, 3, 1, 0, 0, 3) := rfl
theorem e24_64 (t : Nat) (ls : mL) (st : List Value) (σ : mS) : ev 24 64 ls (.ref t :: st) σ = gfK (σ.1 t) 1 0 (fun v => ev 24 67 ls (v :: st) σ) := e_getf k24_64
theorem k24_67 : cod 24 67 = some (.bipush (7), 2, 0, 0, 0, 0) := rfl
theorem e24_67 (ls : mL) (st : List Value) (σ : mS) : ev 24 67 ls st σ = ev 24 69 ls (.int 7 :: st) σ := e_bipush 7 k24_67 (by decide)
theorem k24_69 : cod 24 69 = some (.invokevirtual 61, 3, 56, 1, 0, 5) := rfl
theorem e24_69 (t : Nat) (x0 : Int32) (ls : mL) (st : List Value) (σ : mS) (hm : mCat st ≤ 8) : ev 24 69 ls (.int x0 :: .ref t :: st) σ = isC (σ.1 t) 5 ((evM 56 [.ref t, .int x0] σ).bind fun z => ev 24 72 ls (z.1.toList ++ st) z.2) := e_callVK k24_69 (by decide) rfl ⟨hm, Nat.le_of_ble_eq_true rfl⟩
theorem k24_72 : cod 24 72 = some (.ifCond .eq (14), 3, 86, 0, 0, 0) := rfl
theorem e24_72 (x : Int32) (ls : mL) (st : List Value) (σ : mS) : ev 24 72 ls (.int x :: st) σ = if x = 0 then ev 24 86 ls st σ else ev 24 75 ls st σ := e_if_eq k24_72
theorem k24_75 : cod 24 75 = some (.aload_n 0, 1, 0, 0, 0, 0) := rfl
theorem e24_75 (x : Nat) (ls : mL) (st : List Value) (σ : mS) : ev 24 75 (some (.ref x) :: ls) st σ = ev 24 76 (some (.ref x) :: ls) (.ref x :: st) σ := e_aload1 k24_75 rfl
theorem k24_76 : cod 24 76 = some (.getfield 12, 3, 1, 0, 0, 3) := rfl
theorem e24_76 (t : Nat) (ls : mL) (st : List Value) (σ : mS) : ev 24 76 ls (.ref t :: st) σ = gfK (σ.1 t) 1 0 (fun v => ev 24 79 ls (v :: st) σ) := e_getf k24_76
theorem k24_79 : cod 24 79 = some (.invokevirtual 27, 3, 53, 0, 0, 5) := rfl
theorem e24_79 (t : Nat) (ls : mL) (st : List Value) (σ : mS) (hm : mCat st ≤ 8) : ev 24 79 ls (.ref t :: st) σ = isC (σ.1 t) 5 ((evM 53 [.ref t] σ).bind fun z => ev 24 82 ls (z.1.toList ++ st) z.2) := e_callVK k24_79 (by decide) rfl ⟨hm, Nat.le_of_ble_eq_true rfl⟩
theorem k24_82 : cod 24 82 = some (.iconst 1, 1, 0, 0, 0, 0) := rfl
theorem e24_82 (ls : mL) (st : List Value) (σ : mS) : ev 24 82 ls st σ = ev 24 83 ls (.int 1 :: st) σ := e_iconst 1 k24_82 (by decide)
theorem k24_83 : cod 24 83 = some (.if_icmp .eq (5), 3, 88, 0, 0, 0) := rfl
theorem e24_83 (x y : Int32) (ls : mL) (st : List Value) (σ : mS) : ev 24 83 ls (.int y :: .int x :: st) σ = if x = y then ev 24 88 ls st σ else ev 24 86 ls st σ := e_ic_eq k24_83
theorem k24_86 : cod 24 86 = some (.iconst 0, 1, 0, 0, 0, 0) := rfl
theorem e24_86 (ls : mL) (st : List Value) (σ : mS) : ev 24 86 ls st σ = ev 24 87 ls (.int 0 :: st) σ := e_iconst 0 k24_86 (by decide)
theorem k24_87 : cod 24 87 = some (.ireturn, 1, 0, 0, 0, 0) := rfl
theorem e24_87 (x : Int32) (ls : mL) (σ : mS) : ev 24 87 ls [.int x] σ = if x = 0 ∨ x = 1 then some (some (.int x), σ) else none := e_zret k24_87 rfl
theorem e24_87b0 (ls : mL) (σ : mS) : ev 24 87 ls [.int 0] σ = some (some (.int 0), σ) := (e_zret k24_87 rfl).trans (if_pos (Or.inl rfl))
theorem e24_87b1 (ls : mL) (σ : mS) : ev 24 87 ls [.int 1] σ = some (some (.int 1), σ) := (e_zret k24_87 rfl).trans (if_pos (Or.inr rfl))
theorem k24_88 : cod 24 88 = some (.iconst 0, 1, 0, 0, 0, 0) := rfl
theorem e24_88 (ls : mL) (st : List Value) (σ : mS) : ev 24 88 ls st σ = ev 24 89 ls (.int 0 :: st) σ := e_iconst 0 k24_88 (by decide)
theorem k24_89 : cod 24 89 = some (.istore 4, 2, 0, 0, 0, 0) := rfl
theorem e24_89i (a0 a1 a2 : Option Value) (y : Int32) (o : Option Value) (x : Int32) (ls : mL) (st : List Value) (σ : mS) : ev 24 89 (a0 :: a1 :: a2 :: some (.int y) :: o :: ls) (.int x :: st) σ = ev 24 91 (a0 :: a1 :: a2 :: some (.int y) :: some (.int x) :: ls) st σ := e_istore0 k24_89 (Nat.le_add_left 5 ls.length)
theorem e24_89n (a0 a1 a2 : Option Value) (o : Option Value) (x : Int32) (ls : mL) (st : List Value) (σ : mS) : ev 24 89 (a0 :: a1 :: a2 :: none :: o :: ls) (.int x :: st) σ = ev 24 91 (a0 :: a1 :: a2 :: none :: some (.int x) :: ls) st σ := e_istore0 k24_89 (Nat.le_add_left 5 ls.length)
theorem e24_89r (a0 a1 a2 : Option Value) (y : Nat) (o : Option Value) (x : Int32) (ls : mL) (st : List Value) (σ : mS) : ev 24 89 (a0 :: a1 :: a2 :: some (.ref y) :: o :: ls) (.int x :: st) σ = ev 24 91 (a0 :: a1 :: a2 :: some (.ref y) :: some (.int x) :: ls) st σ := e_istore0 k24_89 (Nat.le_add_left 5 ls.length)
theorem k24_91 : cod 24 91 = some (.iload 4, 2, 0, 0, 0, 0) := rfl
theorem e24_91 (a0 a1 a2 a3 : Option Value) (x : Int32) (ls : mL) (st : List Value) (σ : mS) : ev 24 91 (a0 :: a1 :: a2 :: a3 :: some (.int x) :: ls) st σ = ev 24 93 (a0 :: a1 :: a2 :: a3 :: some (.int x) :: ls) (.int x :: st) σ := e_iload0 k24_91 rfl
theorem k24_93 : cod 24 93 = some (.iconst 4, 1, 0, 0, 0, 0) := rfl
theorem e24_93 (ls : mL) (st : List Value) (σ : mS) : ev 24 93 ls st σ = ev 24 94 ls (.int 4 :: st) σ := e_iconst 4 k24_93 (by decide)
theorem k24_94 : cod 24 94 = some (.if_icmp .ge (45), 3, 139, 0, 0, 0) := rfl
theorem e24_94 (x y : Int32) (ls : mL) (st : List Value) (σ : mS) : ev 24 94 ls (.int y :: .int x :: st) σ = if y ≤ x then ev 24 139 ls st σ else ev 24 97 ls st σ := e_ic_ge k24_94
theorem k24_97 : cod 24 97 = some (.aload_n 0, 1, 0, 0, 0, 0) := rfl
theorem e24_97 (x : Nat) (ls : mL) (st : List Value) (σ : mS) : ev 24 97 (some (.ref x) :: ls) st σ = ev 24 98 (some (.ref x) :: ls) (.ref x :: st) σ := e_aload1 k24_97 rfl
theorem k24_98 : cod 24 98 = some (.getfield 12, 3, 1, 0, 0, 3) := rfl
theorem e24_98 (t : Nat) (ls : mL) (st : List Value) (σ : mS) : ev 24 98 ls (.ref t :: st) σ = gfK (σ.1 t) 1 0 (fun v => ev 24 101 ls (v :: st) σ) := e_getf k24_98
theorem k24_101 : cod 24 101 = some (.invokevirtual 27, 3, 53, 0, 0, 5) := rfl
theorem e24_101 (t : Nat) (ls : mL) (st : List Value) (σ : mS) (hm : mCat st ≤ 8) : ev 24 101 ls (.ref t :: st) σ = isC (σ.1 t) 5 ((evM 53 [.ref t] σ).bind fun z => ev 24 104 ls (z.1.toList ++ st) z.2) := e_callVK k24_101 (by decide) rfl ⟨hm, Nat.le_of_ble_eq_true rfl⟩
theorem k24_104 : cod 24 104 = some (.iconst 1, 1, 0, 0, 0, 0) := rfl
theorem e24_104 (ls : mL) (st : List Value) (σ : mS) : ev 24 104 ls st σ = ev 24 105 ls (.int 1 :: st) σ := e_iconst 1 k24_104 (by decide)
theorem k24_105 : cod 24 105 = some (.if_icmp .ne (34), 3, 139, 0, 0, 0) := rfl
theorem e24_105 (x y : Int32) (ls : mL) (st : List Value) (σ : mS) : ev 24 105 ls (.int y :: .int x :: st) σ = if x = y then ev 24 108 ls st σ else ev 24 139 ls st σ := e_ic_ne k24_105
theorem k24_108 : cod 24 108 = some (.aload_n 1, 1, 0, 0, 0, 0) := rfl
theorem e24_108 (a0 : Option Value) (x : Nat) (ls : mL) (st : List Value) (σ : mS) : ev 24 108 (a0 :: some (.ref x) :: ls) st σ = ev 24 109 (a0 :: some (.ref x) :: ls) (.ref x :: st) σ := e_aload1 k24_108 rfl
theorem k24_109 : cod 24 109 = some (.iload_n 2, 1, 0, 0, 0, 0) := rfl
theorem e24_109 (a0 a1 : Option Value) (x : Int32) (ls : mL) (st : List Value) (σ : mS) : ev 24 109 (a0 :: a1 :: some (.int x) :: ls) st σ = ev 24 110 (a0 :: a1 :: some (.int x) :: ls) (.int x :: st) σ := e_iload1 k24_109 rfl
theorem k24_110 : cod 24 110 = some (.iload_n 3, 1, 0, 0, 0, 0) := rfl
theorem e24_110 (a0 a1 a2 : Option Value) (x : Int32) (ls : mL) (st : List Value) (σ : mS) : ev 24 110 (a0 :: a1 :: a2 :: some (.int x) :: ls) st σ = ev 24 111 (a0 :: a1 :: a2 :: some (.int x) :: ls) (.int x :: st) σ := e_iload1 k24_110 rfl
theorem k24_111 : cod 24 111 = some (.aload_n 0, 1, 0, 0, 0, 0) := rfl
theorem e24_111 (x : Nat) (ls : mL) (st : List Value) (σ : mS) : ev 24 111 (some (.ref x) :: ls) st σ = ev 24 112 (some (.ref x) :: ls) (.ref x :: st) σ := e_aload1 k24_111 rfl
theorem k24_112 : cod 24 112 = some (.getfield 12, 3, 1, 0, 0, 3) := rfl
theorem e24_112 (t : Nat) (ls : mL) (st : List Value) (σ : mS) : ev 24 112 ls (.ref t :: st) σ = gfK (σ.1 t) 1 0 (fun v => ev 24 115 ls (v :: st) σ) := e_getf k24_112
theorem k24_115 : cod 24 115 = some (.invokevirtual 51, 3, 54, 0, 0, 5) := rfl
theorem e24_115 (t : Nat) (ls : mL) (st : List Value) (σ : mS) (hm : mCat st ≤ 8) : ev 24 115 ls (.ref t :: st) σ = isC (σ.1 t) 5 ((evM 54 [.ref t] σ).bind fun z => ev 24 118 ls (z.1.toList ++ st) z.2) := e_callVK k24_115 (by decide) rfl ⟨hm, Nat.le_of_ble_eq_true rfl⟩
theorem k24_118 : cod 24 118 = some (.invokevirtual 65, 3, 70, 3, 0, 6) := rfl
theorem e24_118 (t : Nat) (x0 : Int32) (x1 : Int32) (x2 : Int32) (ls : mL) (st : List Value) (σ : mS) (hm : mCat st ≤ 8) : ev 24 118 ls (.int x2 :: .int x1 :: .int x0 :: .ref t :: st) σ = isC (σ.1 t) 6 ((evM 70 [.ref t, .int x0, .int x1, .int x2] σ).bind fun z => ev 24 121 ls (z.1.toList ++ st) z.2) := e_callVK k24_118 (by decide) rfl ⟨hm, Nat.le_of_ble_eq_true rfl⟩
theorem k24_121 : cod 24 121 = some (.ifCond .ne (5), 3, 126, 0, 0, 0) := rfl
theorem e24_121 (x : Int32) (ls : mL) (st : List Value) (σ : mS) : ev 24 121 ls (.int x :: st) σ = if x = 0 then ev 24 124 ls st σ else ev 24 126 ls st σ := e_if_ne k24_121
theorem k24_124 : cod 24 124 = some (.iconst 0, 1, 0, 0, 0, 0) := rfl
theorem e24_124 (ls : mL) (st : List Value) (σ : mS) : ev 24 124 ls st σ = ev 24 125 ls (.int 0 :: st) σ := e_iconst 0 k24_124 (by decide)
theorem k24_125 : cod 24 125 = some (.ireturn, 1, 0, 0, 0, 0) := rfl
theorem e24_125 (x : Int32) (ls : mL) (σ : mS) : ev 24 125 ls [.int x] σ = if x = 0 ∨ x = 1 then some (some (.int x), σ) else none := e_zret k24_125 rfl
theorem e24_125b0 (ls : mL) (σ : mS) : ev 24 125 ls [.int 0] σ = some (some (.int 0), σ) := (e_zret k24_125 rfl).trans (if_pos (Or.inl rfl))
theorem e24_125b1 (ls : mL) (σ : mS) : ev 24 125 ls [.int 1] σ = some (some (.int 1), σ) := (e_zret k24_125 rfl).trans (if_pos (Or.inr rfl))
theorem k24_126 : cod 24 126 = some (.aload_n 0, 1, 0, 0, 0, 0) := rfl
theorem e24_126 (x : Nat) (ls : mL) (st : List Value) (σ : mS) : ev 24 126 (some (.ref x) :: ls) st σ = ev 24 127 (some (.ref x) :: ls) (.ref x :: st) σ := e_aload1 k24_126 rfl
theorem k24_127 : cod 24 127 = some (.getfield 12, 3, 1, 0, 0, 3) := rfl
theorem e24_127 (t : Nat) (ls : mL) (st : List Value) (σ : mS) : ev 24 127 ls (.ref t :: st) σ = gfK (σ.1 t) 1 0 (fun v => ev 24 130 ls (v :: st) σ) := e_getf k24_127
theorem k24_130 : cod 24 130 = some (.invokevirtual 54, 3, 55, 0, 0, 5) := rfl
theorem e24_130 (t : Nat) (ls : mL) (st : List Value) (σ : mS) (hm : mCat st ≤ 8) : ev 24 130 ls (.ref t :: st) σ = isC (σ.1 t) 5 ((evM 55 [.ref t] σ).bind fun z => ev 24 133 ls (z.1.toList ++ st) z.2) := e_callVK k24_130 (by decide) rfl ⟨hm, Nat.le_of_ble_eq_true rfl⟩
theorem k24_133 : cod 24 133 = some (.iinc 4 (1), 3, 0, 0, 0, 0) := rfl
theorem e24_133i (a0 a1 a2 : Option Value) (y : Int32) (x : Int32) (ls : mL) (st : List Value) (σ : mS) : ev 24 133 (a0 :: a1 :: a2 :: some (.int y) :: some (.int x) :: ls) st σ = ev 24 136 (a0 :: a1 :: a2 :: some (.int y) :: some (.int (x + 1)) :: ls) st σ := e_iinc 1 k24_133 (by decide) rfl
theorem e24_133n (a0 a1 a2 : Option Value) (x : Int32) (ls : mL) (st : List Value) (σ : mS) : ev 24 133 (a0 :: a1 :: a2 :: none :: some (.int x) :: ls) st σ = ev 24 136 (a0 :: a1 :: a2 :: none :: some (.int (x + 1)) :: ls) st σ := e_iinc 1 k24_133 (by decide) rfl
theorem e24_133r (a0 a1 a2 : Option Value) (y : Nat) (x : Int32) (ls : mL) (st : List Value) (σ : mS) : ev 24 133 (a0 :: a1 :: a2 :: some (.ref y) :: some (.int x) :: ls) st σ = ev 24 136 (a0 :: a1 :: a2 :: some (.ref y) :: some (.int (x + 1)) :: ls) st σ := e_iinc 1 k24_133 (by decide) rfl
theorem k24_136 : cod 24 136 = some (.goto (-45), 3, 91, 0, 0, 0) := rfl
theorem e24_136 (ls : mL) (st : List Value) (σ : mS) : ev 24 136 ls st σ = ev 24 91 ls st σ := e_goto k24_136
theorem k24_139 : cod 24 139 = some (.aload_n 1, 1, 0, 0, 0, 0) := rfl
theorem e24_139 (a0 : Option Value) (x : Nat) (ls : mL) (st : List Value) (σ : mS) : ev 24 139 (a0 :: some (.ref x) :: ls) st σ = ev 24 140 (a0 :: some (.ref x) :: ls) (.ref x :: st) σ := e_aload1 k24_139 rfl
theorem k24_140 : cod 24 140 = some (.dup, 1, 0, 0, 0, 0) := rfl
theorem e24_140i (x : Int32) (ls : mL) (st : List Value) (σ : mS) : ev 24 140 ls (.int x :: st) σ = ev 24 141 ls (.int x :: .int x :: st) σ := e_dupI k24_140
theorem e24_140r (x : Nat) (ls : mL) (st : List Value) (σ : mS) : ev 24 140 ls (.ref x :: st) σ = ev 24 141 ls (.ref x :: .ref x :: st) σ := e_dupR k24_140
theorem k24_141 : cod 24 141 = some (.getfield 47, 3, 6, 5, 1, 0) := rfl
theorem e24_141 (t : Nat) (ls : mL) (st : List Value) (σ : mS) : ev 24 141 ls (.ref t :: st) σ = gfK (σ.1 t) 6 5 (fun v => ev 24 144 ls (v :: st) σ) := e_getf k24_141
theorem k24_144 : cod 24 144 = some (.iconst 1, 1, 0, 0, 0, 0) := rfl
theorem e24_144 (ls : mL) (st : List Value) (σ : mS) : ev 24 144 ls st σ = ev 24 145 ls (.int 1 :: st) σ := e_iconst 1 k24_144 (by decide)
theorem k24_145 : cod 24 145 = some (.iadd, 1, 0, 0, 0, 0) := rfl
theorem e24_145 (x y : Int32) (ls : mL) (st : List Value) (σ : mS) : ev 24 145 ls (.int y :: .int x :: st) σ = ev 24 146 ls (.int (x + y) :: st) σ := e_iadd k24_145
theorem k24_146 : cod 24 146 = some (.putfield 47, 3, 6, 5, 1, 0) := rfl
theorem e24_146 (x : Int32) (t : Nat) (ls : mL) (st : List Value) (σ : mS) : ev 24 146 ls (.int x :: .ref t :: st) σ = pfK (σ.1 t) 6 5 (.int x) (fun e => ev 24 149 ls st (mset σ t e)) := e_putI k24_146
theorem k24_149 : cod 24 149 = some (.aload_n 0, 1, 0, 0, 0, 0) := rfl
theorem e24_149 (x : Nat) (ls : mL) (st : List Value) (σ : mS) : ev 24 149 (some (.ref x) :: ls) st σ = ev 24 150 (some (.ref x) :: ls) (.ref x :: st) σ := e_aload1 k24_149 rfl
theorem k24_150 : cod 24 150 = some (.getfield 12, 3, 1, 0, 0, 3) := rfl
theorem e24_150 (t : Nat) (ls : mL) (st : List Value) (σ : mS) : ev 24 150 ls (.ref t :: st) σ = gfK (σ.1 t) 1 0 (fun v => ev 24 153 ls (v :: st) σ) := e_getf k24_150
theorem k24_153 : cod 24 153 = some (.bipush (8), 2, 0, 0, 0, 0) := rfl
theorem e24_153 (ls : mL) (st : List Value) (σ : mS) : ev 24 153 ls st σ = ev 24 155 ls (.int 8 :: st) σ := e_bipush 8 k24_153 (by decide)
theorem k24_155 : cod 24 155 = some (.invokevirtual 61, 3, 56, 1, 0, 5) := rfl
theorem e24_155 (t : Nat) (x0 : Int32) (ls : mL) (st : List Value) (σ : mS) (hm : mCat st ≤ 8) : ev 24 155 ls (.int x0 :: .ref t :: st) σ = isC (σ.1 t) 5 ((evM 56 [.ref t, .int x0] σ).bind fun z => ev 24 158 ls (z.1.toList ++ st) z.2) := e_callVK k24_155 (by decide) rfl ⟨hm, Nat.le_of_ble_eq_true rfl⟩
theorem k24_158 : cod 24 158 = some (.ireturn, 1, 0, 0, 0, 0) := rfl
theorem e24_158 (x : Int32) (ls : mL) (σ : mS) : ev 24 158 ls [.int x] σ = if x = 0 ∨ x = 1 then some (some (.int x), σ) else none := e_zret k24_158 rfl
theorem e24_158b0 (ls : mL) (σ : mS) : ev 24 158 ls [.int 0] σ = some (some (.int 0), σ) := (e_zret k24_158 rfl).trans (if_pos (Or.inl rfl))
theorem e24_158b1 (ls : mL) (σ : mS) : ev 24 158 ls [.int 1] σ = some (some (.int 1), σ) := (e_zret k24_158 rfl).trans (if_pos (Or.inr rfl))
theorem m24 (t : Nat) (x0 : Nat) (σ : mS) : evM 24 [.ref t, .ref x0] σ = ev 24 0 [some (.ref t), some (.ref x0), none, none, none] [] σ := rfl
theorem k25_0 : cod 25 0 = some (.aload_n 0, 1, 0, 0, 0, 0) := rfl
theorem e25_0 (x : Nat) (ls : mL) (st : List Value) (σ : mS) : ev 25 0 (some (.ref x) :: ls) st σ = ev 25 1 (some (.ref x) :: ls) (.ref x :: st) σ := e_aload1 k25_0 rfl
theorem k25_1 : cod 25 1 = some (.getfield 12, 3, 1, 0, 0, 3) := rfl
theorem e25_1 (t : Nat) (ls : mL) (st : List Value) (σ : mS) : ev 25 1 ls (.ref t :: st) σ = gfK (σ.1 t) 1 0 (fun v => ev 25 4 ls (v :: st) σ) := e_getf k25_1
theorem k25_4 : cod 25 4 = some (.invokevirtual 27, 3, 53, 0, 0, 5) := rfl
theorem e25_4 (t : Nat) (ls : mL) (st : List Value) (σ : mS) (hm : mCat st ≤ 8) : ev 25 4 ls (.ref t :: st) σ = isC (σ.1 t) 5 ((evM 53 [.ref t] σ).bind fun z => ev 25 7 ls (z.1.toList ++ st) z.2) := e_callVK k25_4 (by decide) rfl ⟨hm, Nat.le_of_ble_eq_true rfl⟩
theorem k25_7 : cod 25 7 = some (.istore_n 2, 1, 0, 0, 0, 0) := rfl
theorem e25_7i (a0 : Option Value) (y : Int32) (o : Option Value) (x : Int32) (ls : mL) (st : List Value) (σ : mS) : ev 25 7 (a0 :: some (.int y) :: o :: ls) (.int x :: st) σ = ev 25 8 (a0 :: some (.int y) :: some (.int x) :: ls) st σ := e_istore1 k25_7 (Nat.le_add_left 3 ls.length)
theorem e25_7n (a0 : Option Value) (o : Option Value) (x : Int32) (ls : mL) (st : List Value) (σ : mS) : ev 25 7 (a0 :: none :: o :: ls) (.int x :: st) σ = ev 25 8 (a0 :: none :: some (.int x) :: ls) st σ := e_istore1 k25_7 (Nat.le_add_left 3 ls.length)
theorem e25_7r (a0 : Option Value) (y : Nat) (o : Option Value) (x : Int32) (ls : mL) (st : List Value) (σ : mS) : ev 25 7 (a0 :: some (.ref y) :: o :: ls) (.int x :: st) σ = ev 25 8 (a0 :: some (.ref y) :: some (.int x) :: ls) st σ := e_istore1 k25_7 (Nat.le_add_left 3 ls.length)
theorem k25_8 : cod 25 8 = some (.aload_n 0, 1, 0, 0, 0, 0) := rfl
theorem e25_8 (x : Nat) (ls : mL) (st : List Value) (σ : mS) : ev 25 8 (some (.ref x) :: ls) st σ = ev 25 9 (some (.ref x) :: ls) (.ref x :: st) σ := e_aload1 k25_8 rfl
theorem k25_9 : cod 25 9 = some (.getfield 12, 3, 1, 0, 0, 3) := rfl
theorem e25_9 (t : Nat) (ls : mL) (st : List Value) (σ : mS) : ev 25 9 ls (.ref t :: st) σ = gfK (σ.1 t) 1 0 (fun v => ev 25 12 ls (v :: st) σ) := e_getf k25_9
theorem k25_12 : cod 25 12 = some (.invokevirtual 54, 3, 55, 0, 0, 5) := rfl
theorem e25_12 (t : Nat) (ls : mL) (st : List Value) (σ : mS) (hm : mCat st ≤ 8) : ev 25 12 ls (.ref t :: st) σ = isC (σ.1 t) 5 ((evM 55 [.ref t] σ).bind fun z => ev 25 15 ls (z.1.toList ++ st) z.2) := e_callVK k25_12 (by decide) rfl ⟨hm, Nat.le_of_ble_eq_true rfl⟩
theorem k25_15 : cod 25 15 = some (.aload_n 0, 1, 0, 0, 0, 0) := rfl
theorem e25_15 (x : Nat) (ls : mL) (st : List Value) (σ : mS) : ev 25 15 (some (.ref x) :: ls) st σ = ev 25 16 (some (.ref x) :: ls) (.ref x :: st) σ := e_aload1 k25_15 rfl
theorem k25_16 : cod 25 16 = some (.getfield 12, 3, 1, 0, 0, 3) := rfl
theorem e25_16 (t : Nat) (ls : mL) (st : List Value) (σ : mS) : ev 25 16 ls (.ref t :: st) σ = gfK (σ.1 t) 1 0 (fun v => ev 25 19 ls (v :: st) σ) := e_getf k25_16
theorem k25_19 : cod 25 19 = some (.invokevirtual 27, 3, 53, 0, 0, 5) := rfl
theorem e25_19 (t : Nat) (ls : mL) (st : List Value) (σ : mS) (hm : mCat st ≤ 8) : ev 25 19 ls (.ref t :: st) σ = isC (σ.1 t) 5 ((evM 53 [.ref t] σ).bind fun z => ev 25 22 ls (z.1.toList ++ st) z.2) := e_callVK k25_19 (by decide) rfl ⟨hm, Nat.le_of_ble_eq_true rfl⟩
theorem k25_22 : cod 25 22 = some (.iconst 1, 1, 0, 0, 0, 0) := rfl
theorem e25_22 (ls : mL) (st : List Value) (σ : mS) : ev 25 22 ls st σ = ev 25 23 ls (.int 1 :: st) σ := e_iconst 1 k25_22 (by decide)
theorem k25_23 : cod 25 23 = some (.if_icmp .eq (5), 3, 28, 0, 0, 0) := rfl
theorem e25_23 (x y : Int32) (ls : mL) (st : List Value) (σ : mS) : ev 25 23 ls (.int y :: .int x :: st) σ = if x = y then ev 25 28 ls st σ else ev 25 26 ls st σ := e_ic_eq k25_23
theorem k25_26 : cod 25 26 = some (.iconst 0, 1, 0, 0, 0, 0) := rfl
theorem e25_26 (ls : mL) (st : List Value) (σ : mS) : ev 25 26 ls st σ = ev 25 27 ls (.int 0 :: st) σ := e_iconst 0 k25_26 (by decide)
theorem k25_27 : cod 25 27 = some (.ireturn, 1, 0, 0, 0, 0) := rfl
theorem e25_27 (x : Int32) (ls : mL) (σ : mS) : ev 25 27 ls [.int x] σ = if x = 0 ∨ x = 1 then some (some (.int x), σ) else none := e_zret k25_27 rfl
theorem e25_27b0 (ls : mL) (σ : mS) : ev 25 27 ls [.int 0] σ = some (some (.int 0), σ) := (e_zret k25_27 rfl).trans (if_pos (Or.inl rfl))
theorem e25_27b1 (ls : mL) (σ : mS) : ev 25 27 ls [.int 1] σ = some (some (.int 1), σ) := (e_zret k25_27 rfl).trans (if_pos (Or.inr rfl))
theorem k25_28 : cod 25 28 = some (.iconst 0, 1, 0, 0, 0, 0) := rfl
theorem e25_28 (ls : mL) (st : List Value) (σ : mS) : ev 25 28 ls st σ = ev 25 29 ls (.int 0 :: st) σ := e_iconst 0 k25_28 (by decide)
theorem k25_29 : cod 25 29 = some (.istore_n 3, 1, 0, 0, 0, 0) := rfl
theorem e25_29i (a0 a1 : Option Value) (y : Int32) (o : Option Value) (x : Int32) (ls : mL) (st : List Value) (σ : mS) : ev 25 29 (a0 :: a1 :: some (.int y) :: o :: ls) (.int x :: st) σ = ev 25 30 (a0 :: a1 :: some (.int y) :: some (.int x) :: ls) st σ := e_istore1 k25_29 (Nat.le_add_left 4 ls.length)
theorem e25_29n (a0 a1 : Option Value) (o : Option Value) (x : Int32) (ls : mL) (st : List Value) (σ : mS) : ev 25 29 (a0 :: a1 :: none :: o :: ls) (.int x :: st) σ = ev 25 30 (a0 :: a1 :: none :: some (.int x) :: ls) st σ := e_istore1 k25_29 (Nat.le_add_left 4 ls.length)
theorem e25_29r (a0 a1 : Option Value) (y : Nat) (o : Option Value) (x : Int32) (ls : mL) (st : List Value) (σ : mS) : ev 25 29 (a0 :: a1 :: some (.ref y) :: o :: ls) (.int x :: st) σ = ev 25 30 (a0 :: a1 :: some (.ref y) :: some (.int x) :: ls) st σ := e_istore1 k25_29 (Nat.le_add_left 4 ls.length)
theorem k25_30 : cod 25 30 = some (.iload_n 3, 1, 0, 0, 0, 0) := rfl
theorem e25_30 (a0 a1 a2 : Option Value) (x : Int32) (ls : mL) (st : List Value) (σ : mS) : ev 25 30 (a0 :: a1 :: a2 :: some (.int x) :: ls) st σ = ev 25 31 (a0 :: a1 :: a2 :: some (.int x) :: ls) (.int x :: st) σ := e_iload1 k25_30 rfl
theorem k25_31 : cod 25 31 = some (.bipush (16), 2, 0, 0, 0, 0) := rfl
theorem e25_31 (ls : mL) (st : List Value) (σ : mS) : ev 25 31 ls st σ = ev 25 33 ls (.int 16 :: st) σ := e_bipush 16 k25_31 (by decide)
theorem k25_33 : cod 25 33 = some (.if_icmp .ge (39), 3, 72, 0, 0, 0) := rfl
theorem e25_33 (x y : Int32) (ls : mL) (st : List Value) (σ : mS) : ev 25 33 ls (.int y :: .int x :: st) σ = if y ≤ x then ev 25 72 ls st σ else ev 25 36 ls st σ := e_ic_ge k25_33
theorem k25_36 : cod 25 36 = some (.aload_n 0, 1, 0, 0, 0, 0) := rfl
theorem e25_36 (x : Nat) (ls : mL) (st : List Value) (σ : mS) : ev 25 36 (some (.ref x) :: ls) st σ = ev 25 37 (some (.ref x) :: ls) (.ref x :: st) σ := e_aload1 k25_36 rfl
theorem k25_37 : cod 25 37 = some (.getfield 12, 3, 1, 0, 0, 3) := rfl
theorem e25_37 (t : Nat) (ls : mL) (st : List Value) (σ : mS) : ev 25 37 ls (.ref t :: st) σ = gfK (σ.1 t) 1 0 (fun v => ev 25 40 ls (v :: st) σ) := e_getf k25_37
theorem k25_40 : cod 25 40 = some (.invokevirtual 27, 3, 53, 0, 0, 5) := rfl
theorem e25_40 (t : Nat) (ls : mL) (st : List Value) (σ : mS) (hm : mCat st ≤ 8) : ev 25 40 ls (.ref t :: st) σ = isC (σ.1 t) 5 ((evM 53 [.ref t] σ).bind fun z => ev 25 43 ls (z.1.toList ++ st) z.2) := e_callVK k25_40 (by decide) rfl ⟨hm, Nat.le_of_ble_eq_true rfl⟩
theorem k25_43 : cod 25 43 = some (.iconst 1, 1, 0, 0, 0, 0) := rfl
theorem e25_43 (ls : mL) (st : List Value) (σ : mS) : ev 25 43 ls st σ = ev 25 44 ls (.int 1 :: st) σ := e_iconst 1 k25_43 (by decide)
theorem k25_44 : cod 25 44 = some (.if_icmp .ne (28), 3, 72, 0, 0, 0) := rfl
theorem e25_44 (x y : Int32) (ls : mL) (st : List Value) (σ : mS) : ev 25 44 ls (.int y :: .int x :: st) σ = if x = y then ev 25 47 ls st σ else ev 25 72 ls st σ := e_ic_ne k25_44
theorem k25_47 : cod 25 47 = some (.aload_n 1, 1, 0, 0, 0, 0) := rfl
theorem e25_47 (a0 : Option Value) (x : Nat) (ls : mL) (st : List Value) (σ : mS) : ev 25 47 (a0 :: some (.ref x) :: ls) st σ = ev 25 48 (a0 :: some (.ref x) :: ls) (.ref x :: st) σ := e_aload1 k25_47 rfl
theorem k25_48 : cod 25 48 = some (.iload_n 2, 1, 0, 0, 0, 0) := rfl
theorem e25_48 (a0 a1 : Option Value) (x : Int32) (ls : mL) (st : List Value) (σ : mS) : ev 25 48 (a0 :: a1 :: some (.int x) :: ls) st σ = ev 25 49 (a0 :: a1 :: some (.int x) :: ls) (.int x :: st) σ := e_iload1 k25_48 rfl
theorem k25_49 : cod 25 49 = some (.aload_n 0, 1, 0, 0, 0, 0) := rfl
theorem e25_49 (x : Nat) (ls : mL) (st : List Value) (σ : mS) : ev 25 49 (some (.ref x) :: ls) st σ = ev 25 50 (some (.ref x) :: ls) (.ref x :: st) σ := e_aload1 k25_49 rfl
theorem k25_50 : cod 25 50 = some (.getfield 12, 3, 1, 0, 0, 3) := rfl
theorem e25_50 (t : Nat) (ls : mL) (st : List Value) (σ : mS) : ev 25 50 ls (.ref t :: st) σ = gfK (σ.1 t) 1 0 (fun v => ev 25 53 ls (v :: st) σ) := e_getf k25_50
theorem k25_53 : cod 25 53 = some (.invokevirtual 51, 3, 54, 0, 0, 5) := rfl
theorem e25_53 (t : Nat) (ls : mL) (st : List Value) (σ : mS) (hm : mCat st ≤ 8) : ev 25 53 ls (.ref t :: st) σ = isC (σ.1 t) 5 ((evM 54 [.ref t] σ).bind fun z => ev 25 56 ls (z.1.toList ++ st) z.2) := e_callVK k25_53 (by decide) rfl ⟨hm, Nat.le_of_ble_eq_true rfl⟩
theorem k25_56 : cod 25 56 = some (.invokevirtual 69, 3, 71, 2, 0, 6) := rfl
theorem e25_56 (t : Nat) (x0 : Int32) (x1 : Int32) (ls : mL) (st : List Value) (σ : mS) (hm : mCat st ≤ 8) : ev 25 56 ls (.int x1 :: .int x0 :: .ref t :: st) σ = isC (σ.1 t) 6 ((evM 71 [.ref t, .int x0, .int x1] σ).bind fun z => ev 25 59 ls (z.1.toList ++ st) z.2) := e_callVK k25_56 (by decide) rfl ⟨hm, Nat.le_of_ble_eq_true rfl⟩
theorem k25_59 : cod 25 59 = some (.aload_n 0, 1, 0, 0, 0, 0) := rfl
theorem e25_59 (x : Nat) (ls : mL) (st : List Value) (σ : mS) : ev 25 59 (some (.ref x) :: ls) st σ = ev 25 60 (some (.ref x) :: ls) (.ref x :: st) σ := e_aload1 k25_59 rfl
theorem k25_60 : cod 25 60 = some (.getfield 12, 3, 1, 0, 0, 3) := rfl
theorem e25_60 (t : Nat) (ls : mL) (st : List Value) (σ : mS) : ev 25 60 ls (.ref t :: st) σ = gfK (σ.1 t) 1 0 (fun v => ev 25 63 ls (v :: st) σ) := e_getf k25_60
theorem k25_63 : cod 25 63 = some (.invokevirtual 54, 3, 55, 0, 0, 5) := rfl
theorem e25_63 (t : Nat) (ls : mL) (st : List Value) (σ : mS) (hm : mCat st ≤ 8) : ev 25 63 ls (.ref t :: st) σ = isC (σ.1 t) 5 ((evM 55 [.ref t] σ).bind fun z => ev 25 66 ls (z.1.toList ++ st) z.2) := e_callVK k25_63 (by decide) rfl ⟨hm, Nat.le_of_ble_eq_true rfl⟩
theorem k25_66 : cod 25 66 = some (.iinc 3 (1), 3, 0, 0, 0, 0) := rfl
theorem e25_66i (a0 a1 : Option Value) (y : Int32) (x : Int32) (ls : mL) (st : List Value) (σ : mS) : ev 25 66 (a0 :: a1 :: some (.int y) :: some (.int x) :: ls) st σ = ev 25 69 (a0 :: a1 :: some (.int y) :: some (.int (x + 1)) :: ls) st σ := e_iinc 1 k25_66 (by decide) rfl
theorem e25_66n (a0 a1 : Option Value) (x : Int32) (ls : mL) (st : List Value) (σ : mS) : ev 25 66 (a0 :: a1 :: none :: some (.int x) :: ls) st σ = ev 25 69 (a0 :: a1 :: none :: some (.int (x + 1)) :: ls) st σ := e_iinc 1 k25_66 (by decide) rfl
theorem e25_66r (a0 a1 : Option Value) (y : Nat) (x : Int32) (ls : mL) (st : List Value) (σ : mS) : ev 25 66 (a0 :: a1 :: some (.ref y) :: some (.int x) :: ls) st σ = ev 25 69 (a0 :: a1 :: some (.ref y) :: some (.int (x + 1)) :: ls) st σ := e_iinc 1 k25_66 (by decide) rfl
theorem k25_69 : cod 25 69 = some (.goto (-39), 3, 30, 0, 0, 0) := rfl
theorem e25_69 (ls : mL) (st : List Value) (σ : mS) : ev 25 69 ls st σ = ev 25 30 ls st σ := e_goto k25_69
theorem k25_72 : cod 25 72 = some (.aload_n 0, 1, 0, 0, 0, 0) := rfl
theorem e25_72 (x : Nat) (ls : mL) (st : List Value) (σ : mS) : ev 25 72 (some (.ref x) :: ls) st σ = ev 25 73 (some (.ref x) :: ls) (.ref x :: st) σ := e_aload1 k25_72 rfl
theorem k25_73 : cod 25 73 = some (.getfield 12, 3, 1, 0, 0, 3) := rfl
theorem e25_73 (t : Nat) (ls : mL) (st : List Value) (σ : mS) : ev 25 73 ls (.ref t :: st) σ = gfK (σ.1 t) 1 0 (fun v => ev 25 76 ls (v :: st) σ) := e_getf k25_73
theorem k25_76 : cod 25 76 = some (.bipush (8), 2, 0, 0, 0, 0) := rfl
theorem e25_76 (ls : mL) (st : List Value) (σ : mS) : ev 25 76 ls st σ = ev 25 78 ls (.int 8 :: st) σ := e_bipush 8 k25_76 (by decide)
theorem k25_78 : cod 25 78 = some (.invokevirtual 61, 3, 56, 1, 0, 5) := rfl
theorem e25_78 (t : Nat) (x0 : Int32) (ls : mL) (st : List Value) (σ : mS) (hm : mCat st ≤ 8) : ev 25 78 ls (.int x0 :: .ref t :: st) σ = isC (σ.1 t) 5 ((evM 56 [.ref t, .int x0] σ).bind fun z => ev 25 81 ls (z.1.toList ++ st) z.2) := e_callVK k25_78 (by decide) rfl ⟨hm, Nat.le_of_ble_eq_true rfl⟩
theorem k25_81 : cod 25 81 = some (.ireturn, 1, 0, 0, 0, 0) := rfl
theorem e25_81 (x : Int32) (ls : mL) (σ : mS) : ev 25 81 ls [.int x] σ = if x = 0 ∨ x = 1 then some (some (.int x), σ) else none := e_zret k25_81 rfl
theorem e25_81b0 (ls : mL) (σ : mS) : ev 25 81 ls [.int 0] σ = some (some (.int 0), σ) := (e_zret k25_81 rfl).trans (if_pos (Or.inl rfl))
theorem e25_81b1 (ls : mL) (σ : mS) : ev 25 81 ls [.int 1] σ = some (some (.int 1), σ) := (e_zret k25_81 rfl).trans (if_pos (Or.inr rfl))
theorem m25 (t : Nat) (x0 : Nat) (σ : mS) : evM 25 [.ref t, .ref x0] σ = ev 25 0 [some (.ref t), some (.ref x0), none, none] [] σ := rfl
theorem k26_0 : cod 26 0 = some (.aload_n 1, 1, 0, 0, 0, 0) := rfl
theorem e26_0 (a0 : Option Value) (x : Nat) (ls : mL) (st : List Value) (σ : mS) : ev 26 0 (a0 :: some (.ref x) :: ls) st σ = ev 26 1 (a0 :: some (.ref x) :: ls) (.ref x :: st) σ := e_aload1 k26_0 rfl
theorem k26_1 : cod 26 1 = some (.getfield 73, 3, 6, 6, 1, 0) := rfl
theorem e26_1 (t : Nat) (ls : mL) (st : List Value) (σ : mS) : ev 26 1 ls (.ref t :: st) σ = gfK (σ.1 t) 6 6 (fun v => ev 26 4 ls (v :: st) σ) := e_getf k26_1
theorem k26_4 : cod 26 4 = some (.bipush (10), 2, 0, 0, 0, 0) := rfl
theorem e26_4 (ls : mL) (st : List Value) (σ : mS) : ev 26 4 ls st σ = ev 26 6 ls (.int 10 :: st) σ := e_bipush 10 k26_4 (by decide)
theorem k26_6 : cod 26 6 = some (.if_icmp .lt (5), 3, 11, 0, 0, 0) := rfl
theorem e26_6 (x y : Int32) (ls : mL) (st : List Value) (σ : mS) : ev 26 6 ls (.int y :: .int x :: st) σ = if x < y then ev 26 11 ls st σ else ev 26 9 ls st σ := e_ic_lt k26_6
theorem k26_9 : cod 26 9 = some (.iconst 0, 1, 0, 0, 0, 0) := rfl
theorem e26_9 (ls : mL) (st : List Value) (σ : mS) : ev 26 9 ls st σ = ev 26 10 ls (.int 0 :: st) σ := e_iconst 0 k26_9 (by decide)
theorem k26_10 : cod 26 10 = some (.ireturn, 1, 0, 0, 0, 0) := rfl
theorem e26_10 (x : Int32) (ls : mL) (σ : mS) : ev 26 10 ls [.int x] σ = if x = 0 ∨ x = 1 then some (some (.int x), σ) else none := e_zret k26_10 rfl
theorem e26_10b0 (ls : mL) (σ : mS) : ev 26 10 ls [.int 0] σ = some (some (.int 0), σ) := (e_zret k26_10 rfl).trans (if_pos (Or.inl rfl))
theorem e26_10b1 (ls : mL) (σ : mS) : ev 26 10 ls [.int 1] σ = some (some (.int 1), σ) := (e_zret k26_10 rfl).trans (if_pos (Or.inr rfl))
theorem k26_11 : cod 26 11 = some (.aload_n 0, 1, 0, 0, 0, 0) := rfl
theorem e26_11 (x : Nat) (ls : mL) (st : List Value) (σ : mS) : ev 26 11 (some (.ref x) :: ls) st σ = ev 26 12 (some (.ref x) :: ls) (.ref x :: st) σ := e_aload1 k26_11 rfl
theorem k26_12 : cod 26 12 = some (.getfield 12, 3, 1, 0, 0, 3) := rfl
theorem e26_12 (t : Nat) (ls : mL) (st : List Value) (σ : mS) : ev 26 12 ls (.ref t :: st) σ = gfK (σ.1 t) 1 0 (fun v => ev 26 15 ls (v :: st) σ) := e_getf k26_12
theorem k26_15 : cod 26 15 = some (.invokevirtual 54, 3, 55, 0, 0, 5) := rfl
theorem e26_15 (t : Nat) (ls : mL) (st : List Value) (σ : mS) (hm : mCat st ≤ 8) : ev 26 15 ls (.ref t :: st) σ = isC (σ.1 t) 5 ((evM 55 [.ref t] σ).bind fun z => ev 26 18 ls (z.1.toList ++ st) z.2) := e_callVK k26_15 (by decide) rfl ⟨hm, Nat.le_of_ble_eq_true rfl⟩
theorem k26_18 : cod 26 18 = some (.aload_n 0, 1, 0, 0, 0, 0) := rfl
theorem e26_18 (x : Nat) (ls : mL) (st : List Value) (σ : mS) : ev 26 18 (some (.ref x) :: ls) st σ = ev 26 19 (some (.ref x) :: ls) (.ref x :: st) σ := e_aload1 k26_18 rfl
theorem k26_19 : cod 26 19 = some (.getfield 12, 3, 1, 0, 0, 3) := rfl
theorem e26_19 (t : Nat) (ls : mL) (st : List Value) (σ : mS) : ev 26 19 ls (.ref t :: st) σ = gfK (σ.1 t) 1 0 (fun v => ev 26 22 ls (v :: st) σ) := e_getf k26_19
theorem k26_22 : cod 26 22 = some (.invokevirtual 51, 3, 54, 0, 0, 5) := rfl
theorem e26_22 (t : Nat) (ls : mL) (st : List Value) (σ : mS) (hm : mCat st ≤ 8) : ev 26 22 ls (.ref t :: st) σ = isC (σ.1 t) 5 ((evM 54 [.ref t] σ).bind fun z => ev 26 25 ls (z.1.toList ++ st) z.2) := e_callVK k26_22 (by decide) rfl ⟨hm, Nat.le_of_ble_eq_true rfl⟩
theorem k26_25 : cod 26 25 = some (.istore_n 2, 1, 0, 0, 0, 0) := rfl
theorem e26_25i (a0 : Option Value) (y : Int32) (o : Option Value) (x : Int32) (ls : mL) (st : List Value) (σ : mS) : ev 26 25 (a0 :: some (.int y) :: o :: ls) (.int x :: st) σ = ev 26 26 (a0 :: some (.int y) :: some (.int x) :: ls) st σ := e_istore1 k26_25 (Nat.le_add_left 3 ls.length)
theorem e26_25n (a0 : Option Value) (o : Option Value) (x : Int32) (ls : mL) (st : List Value) (σ : mS) : ev 26 25 (a0 :: none :: o :: ls) (.int x :: st) σ = ev 26 26 (a0 :: none :: some (.int x) :: ls) st σ := e_istore1 k26_25 (Nat.le_add_left 3 ls.length)
theorem e26_25r (a0 : Option Value) (y : Nat) (o : Option Value) (x : Int32) (ls : mL) (st : List Value) (σ : mS) : ev 26 25 (a0 :: some (.ref y) :: o :: ls) (.int x :: st) σ = ev 26 26 (a0 :: some (.ref y) :: some (.int x) :: ls) st σ := e_istore1 k26_25 (Nat.le_add_left 3 ls.length)
theorem k26_26 : cod 26 26 = some (.aload_n 0, 1, 0, 0, 0, 0) := rfl
theorem e26_26 (x : Nat) (ls : mL) (st : List Value) (σ : mS) : ev 26 26 (some (.ref x) :: ls) st σ = ev 26 27 (some (.ref x) :: ls) (.ref x :: st) σ := e_aload1 k26_26 rfl
theorem k26_27 : cod 26 27 = some (.getfield 12, 3, 1, 0, 0, 3) := rfl
theorem e26_27 (t : Nat) (ls : mL) (st : List Value) (σ : mS) : ev 26 27 ls (.ref t :: st) σ = gfK (σ.1 t) 1 0 (fun v => ev 26 30 ls (v :: st) σ) := e_getf k26_27
theorem k26_30 : cod 26 30 = some (.iconst 1, 1, 0, 0, 0, 0) := rfl
theorem e26_30 (ls : mL) (st : List Value) (σ : mS) : ev 26 30 ls st σ = ev 26 31 ls (.int 1 :: st) σ := e_iconst 1 k26_30 (by decide)
theorem k26_31 : cod 26 31 = some (.invokevirtual 61, 3, 56, 1, 0, 5) := rfl
theorem e26_31 (t : Nat) (x0 : Int32) (ls : mL) (st : List Value) (σ : mS) (hm : mCat st ≤ 8) : ev 26 31 ls (.int x0 :: .ref t :: st) σ = isC (σ.1 t) 5 ((evM 56 [.ref t, .int x0] σ).bind fun z => ev 26 34 ls (z.1.toList ++ st) z.2) := e_callVK k26_31 (by decide) rfl ⟨hm, Nat.le_of_ble_eq_true rfl⟩
theorem k26_34 : cod 26 34 = some (.ifCond .eq (15), 3, 49, 0, 0, 0) := rfl
theorem e26_34 (x : Int32) (ls : mL) (st : List Value) (σ : mS) : ev 26 34 ls (.int x :: st) σ = if x = 0 then ev 26 49 ls st σ else ev 26 37 ls st σ := e_if_eq k26_34
theorem k26_37 : cod 26 37 = some (.aload_n 0, 1, 0, 0, 0, 0) := rfl
theorem e26_37 (x : Nat) (ls : mL) (st : List Value) (σ : mS) : ev 26 37 (some (.ref x) :: ls) st σ = ev 26 38 (some (.ref x) :: ls) (.ref x :: st) σ := e_aload1 k26_37 rfl
theorem k26_38 : cod 26 38 = some (.getfield 12, 3, 1, 0, 0, 3) := rfl
theorem e26_38 (t : Nat) (ls : mL) (st : List Value) (σ : mS) : ev 26 38 ls (.ref t :: st) σ = gfK (σ.1 t) 1 0 (fun v => ev 26 41 ls (v :: st) σ) := e_getf k26_38
theorem k26_41 : cod 26 41 = some (.bipush (7), 2, 0, 0, 0, 0) := rfl
theorem e26_41 (ls : mL) (st : List Value) (σ : mS) : ev 26 41 ls st σ = ev 26 43 ls (.int 7 :: st) σ := e_bipush 7 k26_41 (by decide)
theorem k26_43 : cod 26 43 = some (.invokevirtual 61, 3, 56, 1, 0, 5) := rfl
theorem e26_43 (t : Nat) (x0 : Int32) (ls : mL) (st : List Value) (σ : mS) (hm : mCat st ≤ 8) : ev 26 43 ls (.int x0 :: .ref t :: st) σ = isC (σ.1 t) 5 ((evM 56 [.ref t, .int x0] σ).bind fun z => ev 26 46 ls (z.1.toList ++ st) z.2) := e_callVK k26_43 (by decide) rfl ⟨hm, Nat.le_of_ble_eq_true rfl⟩
theorem k26_46 : cod 26 46 = some (.ifCond .ne (5), 3, 51, 0, 0, 0) := rfl
theorem e26_46 (x : Int32) (ls : mL) (st : List Value) (σ : mS) : ev 26 46 ls (.int x :: st) σ = if x = 0 then ev 26 49 ls st σ else ev 26 51 ls st σ := e_if_ne k26_46
theorem k26_49 : cod 26 49 = some (.iconst 0, 1, 0, 0, 0, 0) := rfl
theorem e26_49 (ls : mL) (st : List Value) (σ : mS) : ev 26 49 ls st σ = ev 26 50 ls (.int 0 :: st) σ := e_iconst 0 k26_49 (by decide)
theorem k26_50 : cod 26 50 = some (.ireturn, 1, 0, 0, 0, 0) := rfl
theorem e26_50 (x : Int32) (ls : mL) (σ : mS) : ev 26 50 ls [.int x] σ = if x = 0 ∨ x = 1 then some (some (.int x), σ) else none := e_zret k26_50 rfl
theorem e26_50b0 (ls : mL) (σ : mS) : ev 26 50 ls [.int 0] σ = some (some (.int 0), σ) := (e_zret k26_50 rfl).trans (if_pos (Or.inl rfl))
theorem e26_50b1 (ls : mL) (σ : mS) : ev 26 50 ls [.int 1] σ = some (some (.int 1), σ) := (e_zret k26_50 rfl).trans (if_pos (Or.inr rfl))
theorem k26_51 : cod 26 51 = some (.aload_n 0, 1, 0, 0, 0, 0) := rfl
theorem e26_51 (x : Nat) (ls : mL) (st : List Value) (σ : mS) : ev 26 51 (some (.ref x) :: ls) st σ = ev 26 52 (some (.ref x) :: ls) (.ref x :: st) σ := e_aload1 k26_51 rfl
theorem k26_52 : cod 26 52 = some (.getfield 12, 3, 1, 0, 0, 3) := rfl
theorem e26_52 (t : Nat) (ls : mL) (st : List Value) (σ : mS) : ev 26 52 ls (.ref t :: st) σ = gfK (σ.1 t) 1 0 (fun v => ev 26 55 ls (v :: st) σ) := e_getf k26_52
theorem k26_55 : cod 26 55 = some (.invokevirtual 51, 3, 54, 0, 0, 5) := rfl
theorem e26_55 (t : Nat) (ls : mL) (st : List Value) (σ : mS) (hm : mCat st ≤ 8) : ev 26 55 ls (.ref t :: st) σ = isC (σ.1 t) 5 ((evM 54 [.ref t] σ).bind fun z => ev 26 58 ls (z.1.toList ++ st) z.2) := e_callVK k26_55 (by decide) rfl ⟨hm, Nat.le_of_ble_eq_true rfl⟩
theorem k26_58 : cod 26 58 = some (.istore_n 3, 1, 0, 0, 0, 0) := rfl
theorem e26_58i (a0 a1 : Option Value) (y : Int32) (o : Option Value) (x : Int32) (ls : mL) (st : List Value) (σ : mS) : ev 26 58 (a0 :: a1 :: some (.int y) :: o :: ls) (.int x :: st) σ = ev 26 59 (a0 :: a1 :: some (.int y) :: some (.int x) :: ls) st σ := e_istore1 k26_58 (Nat.le_add_left 4 ls.length)
theorem e26_58n (a0 a1 : Option Value) (o : Option Value) (x : Int32) (ls : mL) (st : List Value) (σ : mS) : ev 26 58 (a0 :: a1 :: none :: o :: ls) (.int x :: st) σ = ev 26 59 (a0 :: a1 :: none :: some (.int x) :: ls) st σ := e_istore1 k26_58 (Nat.le_add_left 4 ls.length)
theorem e26_58r (a0 a1 : Option Value) (y : Nat) (o : Option Value) (x : Int32) (ls : mL) (st : List Value) (σ : mS) : ev 26 58 (a0 :: a1 :: some (.ref y) :: o :: ls) (.int x :: st) σ = ev 26 59 (a0 :: a1 :: some (.ref y) :: some (.int x) :: ls) st σ := e_istore1 k26_58 (Nat.le_add_left 4 ls.length)
theorem k26_59 : cod 26 59 = some (.aload_n 0, 1, 0, 0, 0, 0) := rfl
theorem e26_59 (x : Nat) (ls : mL) (st : List Value) (σ : mS) : ev 26 59 (some (.ref x) :: ls) st σ = ev 26 60 (some (.ref x) :: ls) (.ref x :: st) σ := e_aload1 k26_59 rfl
theorem k26_60 : cod 26 60 = some (.getfield 12, 3, 1, 0, 0, 3) := rfl
theorem e26_60 (t : Nat) (ls : mL) (st : List Value) (σ : mS) : ev 26 60 ls (.ref t :: st) σ = gfK (σ.1 t) 1 0 (fun v => ev 26 63 ls (v :: st) σ) := e_getf k26_60
theorem k26_63 : cod 26 63 = some (.iconst 1, 1, 0, 0, 0, 0) := rfl
theorem e26_63 (ls : mL) (st : List Value) (σ : mS) : ev 26 63 ls st σ = ev 26 64 ls (.int 1 :: st) σ := e_iconst 1 k26_63 (by decide)
theorem k26_64 : cod 26 64 = some (.invokevirtual 61, 3, 56, 1, 0, 5) := rfl
theorem e26_64 (t : Nat) (x0 : Int32) (ls : mL) (st : List Value) (σ : mS) (hm : mCat st ≤ 8) : ev 26 64 ls (.int x0 :: .ref t :: st) σ = isC (σ.1 t) 5 ((evM 56 [.ref t, .int x0] σ).bind fun z => ev 26 67 ls (z.1.toList ++ st) z.2) := e_callVK k26_64 (by decide) rfl ⟨hm, Nat.le_of_ble_eq_true rfl⟩
theorem k26_67 : cod 26 67 = some (.ifCond .ne (5), 3, 72, 0, 0, 0) := rfl
theorem e26_67 (x : Int32) (ls : mL) (st : List Value) (σ : mS) : ev 26 67 ls (.int x :: st) σ = if x = 0 then ev 26 70 ls st σ else ev 26 72 ls st σ := e_if_ne k26_67
theorem k26_70 : cod 26 70 = some (.iconst 0, 1, 0, 0, 0, 0) := rfl
theorem e26_70 (ls : mL) (st : List Value) (σ : mS) : ev 26 70 ls st σ = ev 26 71 ls (.int 0 :: st) σ := e_iconst 0 k26_70 (by decide)
theorem k26_71 : cod 26 71 = some (.ireturn, 1, 0, 0, 0, 0) := rfl
theorem e26_71 (x : Int32) (ls : mL) (σ : mS) : ev 26 71 ls [.int x] σ = if x = 0 ∨ x = 1 then some (some (.int x), σ) else none := e_zret k26_71 rfl
theorem e26_71b0 (ls : mL) (σ : mS) : ev 26 71 ls [.int 0] σ = some (some (.int 0), σ) := (e_zret k26_71 rfl).trans (if_pos (Or.inl rfl))
theorem e26_71b1 (ls : mL) (σ : mS) : ev 26 71 ls [.int 1] σ = some (some (.int 1), σ) := (e_zret k26_71 rfl).trans (if_pos (Or.inr rfl))
theorem k26_72 : cod 26 72 = some (.aload_n 1, 1, 0, 0, 0, 0) := rfl
theorem e26_72 (a0 : Option Value) (x : Nat) (ls : mL) (st : List Value) (σ : mS) : ev 26 72 (a0 :: some (.ref x) :: ls) st σ = ev 26 73 (a0 :: some (.ref x) :: ls) (.ref x :: st) σ := e_aload1 k26_72 rfl
theorem k26_73 : cod 26 73 = some (.iload_n 2, 1, 0, 0, 0, 0) := rfl
theorem e26_73 (a0 a1 : Option Value) (x : Int32) (ls : mL) (st : List Value) (σ : mS) : ev 26 73 (a0 :: a1 :: some (.int x) :: ls) st σ = ev 26 74 (a0 :: a1 :: some (.int x) :: ls) (.int x :: st) σ := e_iload1 k26_73 rfl
theorem k26_74 : cod 26 74 = some (.iload_n 3, 1, 0, 0, 0, 0) := rfl
theorem e26_74 (a0 a1 a2 : Option Value) (x : Int32) (ls : mL) (st : List Value) (σ : mS) : ev 26 74 (a0 :: a1 :: a2 :: some (.int x) :: ls) st σ = ev 26 75 (a0 :: a1 :: a2 :: some (.int x) :: ls) (.int x :: st) σ := e_iload1 k26_74 rfl
theorem k26_75 : cod 26 75 = some (.invokevirtual 76, 3, 72, 2, 0, 6) := rfl
theorem e26_75 (t : Nat) (x0 : Int32) (x1 : Int32) (ls : mL) (st : List Value) (σ : mS) (hm : mCat st ≤ 8) : ev 26 75 ls (.int x1 :: .int x0 :: .ref t :: st) σ = isC (σ.1 t) 6 ((evM 72 [.ref t, .int x0, .int x1] σ).bind fun z => ev 26 78 ls (z.1.toList ++ st) z.2) := e_callVK k26_75 (by decide) rfl ⟨hm, Nat.le_of_ble_eq_true rfl⟩
theorem k26_78 : cod 26 78 = some (.aload_n 0, 1, 0, 0, 0, 0) := rfl
theorem e26_78 (x : Nat) (ls : mL) (st : List Value) (σ : mS) : ev 26 78 (some (.ref x) :: ls) st σ = ev 26 79 (some (.ref x) :: ls) (.ref x :: st) σ := e_aload1 k26_78 rfl
theorem k26_79 : cod 26 79 = some (.getfield 12, 3, 1, 0, 0, 3) := rfl
theorem e26_79 (t : Nat) (ls : mL) (st : List Value) (σ : mS) : ev 26 79 ls (.ref t :: st) σ = gfK (σ.1 t) 1 0 (fun v => ev 26 82 ls (v :: st) σ) := e_getf k26_79
theorem k26_82 : cod 26 82 = some (.bipush (8), 2, 0, 0, 0, 0) := rfl
theorem e26_82 (ls : mL) (st : List Value) (σ : mS) : ev 26 82 ls st σ = ev 26 84 ls (.int 8 :: st) σ := e_bipush 8 k26_82 (by decide)
theorem k26_84 : cod 26 84 = some (.invokevirtual 61, 3, 56, 1, 0, 5) := rfl
theorem e26_84 (t : Nat) (x0 : Int32) (ls : mL) (st : List Value) (σ : mS) (hm : mCat st ≤ 8) : ev 26 84 ls (.int x0 :: .ref t :: st) σ = isC (σ.1 t) 5 ((evM 56 [.ref t, .int x0] σ).bind fun z => ev 26 87 ls (z.1.toList ++ st) z.2) := e_callVK k26_84 (by decide) rfl ⟨hm, Nat.le_of_ble_eq_true rfl⟩
theorem k26_87 : cod 26 87 = some (.ireturn, 1, 0, 0, 0, 0) := rfl
theorem e26_87 (x : Int32) (ls : mL) (σ : mS) : ev 26 87 ls [.int x] σ = if x = 0 ∨ x = 1 then some (some (.int x), σ) else none := e_zret k26_87 rfl
theorem e26_87b0 (ls : mL) (σ : mS) : ev 26 87 ls [.int 0] σ = some (some (.int 0), σ) := (e_zret k26_87 rfl).trans (if_pos (Or.inl rfl))
theorem e26_87b1 (ls : mL) (σ : mS) : ev 26 87 ls [.int 1] σ = some (some (.int 1), σ) := (e_zret k26_87 rfl).trans (if_pos (Or.inr rfl))
theorem m26 (t : Nat) (x0 : Nat) (σ : mS) : evM 26 [.ref t, .ref x0] σ = ev 26 0 [some (.ref t), some (.ref x0), none, none] [] σ := rfl
theorem k27_0 : cod 27 0 = some (.aload_n 0, 1, 0, 0, 0, 0) := rfl
theorem e27_0 (x : Nat) (ls : mL) (st : List Value) (σ : mS) : ev 27 0 (some (.ref x) :: ls) st σ = ev 27 1 (some (.ref x) :: ls) (.ref x :: st) σ := e_aload1 k27_0 rfl
theorem k27_1 : cod 27 1 = some (.invokespecial 3, 3, 2, 0, 9, 2) := rfl
theorem e27_1 (x : Nat) (ls : mL) (st : List Value) (σ : mS) (hz : mCat st ≤ 8) : ev 27 1 ls (.ref x :: st) σ = ev 27 4 ls st σ := e_objInit k27_1 hz
theorem k27_4 : cod 27 4 = some (.return_, 1, 0, 0, 0, 0) := rfl
theorem e27_4 (ls : mL) (σ : mS) : ev 27 4 ls [] σ = some (none, σ) := e_vret k27_4 rfl
theorem m27 (t : Nat) (σ : mS) : evM 27 [.ref t] σ = ev 27 0 [some (.ref t)] [] σ := rfl
theorem k28_0 : cod 28 0 = some (.aload_n 0, 1, 0, 0, 0, 0) := rfl
theorem e28_0 (x : Nat) (ls : mL) (st : List Value) (σ : mS) : ev 28 0 (some (.ref x) :: ls) st σ = ev 28 1 (some (.ref x) :: ls) (.ref x :: st) σ := e_aload1 k28_0 rfl
theorem k28_1 : cod 28 1 = some (.iconst 0, 1, 0, 0, 0, 0) := rfl
theorem e28_1 (ls : mL) (st : List Value) (σ : mS) : ev 28 1 ls st σ = ev 28 2 ls (.int 0 :: st) σ := e_iconst 0 k28_1 (by decide)
theorem k28_2 : cod 28 2 = some (.putfield 9, 3, 2, 0, 0, 0) := rfl
theorem e28_2 (x : Int32) (t : Nat) (ls : mL) (st : List Value) (σ : mS) : ev 28 2 ls (.int x :: .ref t :: st) σ = pfK (σ.1 t) 2 0 (.int x) (fun e => ev 28 5 ls st (mset σ t e)) := e_putI k28_2
theorem k28_5 : cod 28 5 = some (.aload_n 0, 1, 0, 0, 0, 0) := rfl
theorem e28_5 (x : Nat) (ls : mL) (st : List Value) (σ : mS) : ev 28 5 (some (.ref x) :: ls) st σ = ev 28 6 (some (.ref x) :: ls) (.ref x :: st) σ := e_aload1 k28_5 rfl
theorem k28_6 : cod 28 6 = some (.bipush (-9), 2, 0, 0, 0, 0) := rfl
theorem e28_6 (ls : mL) (st : List Value) (σ : mS) : ev 28 6 ls st σ = ev 28 8 ls (.int (-9) :: st) σ := e_bipush (-9) k28_6 (by decide)
theorem k28_8 : cod 28 8 = some (.putfield 15, 3, 2, 1, 0, 0) := rfl
theorem e28_8 (x : Int32) (t : Nat) (ls : mL) (st : List Value) (σ : mS) : ev 28 8 ls (.int x :: .ref t :: st) σ = pfK (σ.1 t) 2 1 (.int x) (fun e => ev 28 11 ls st (mset σ t e)) := e_putI k28_8
theorem k28_11 : cod 28 11 = some (.aload_n 0, 1, 0, 0, 0, 0) := rfl
theorem e28_11 (x : Nat) (ls : mL) (st : List Value) (σ : mS) : ev 28 11 (some (.ref x) :: ls) st σ = ev 28 12 (some (.ref x) :: ls) (.ref x :: st) σ := e_aload1 k28_11 rfl
theorem k28_12 : cod 28 12 = some (.bipush (-9), 2, 0, 0, 0, 0) := rfl
theorem e28_12 (ls : mL) (st : List Value) (σ : mS) : ev 28 12 ls st σ = ev 28 14 ls (.int (-9) :: st) σ := e_bipush (-9) k28_12 (by decide)
theorem k28_14 : cod 28 14 = some (.putfield 18, 3, 2, 2, 0, 0) := rfl
theorem e28_14 (x : Int32) (t : Nat) (ls : mL) (st : List Value) (σ : mS) : ev 28 14 ls (.int x :: .ref t :: st) σ = pfK (σ.1 t) 2 2 (.int x) (fun e => ev 28 17 ls st (mset σ t e)) := e_putI k28_14
theorem k28_17 : cod 28 17 = some (.aload_n 0, 1, 0, 0, 0, 0) := rfl
theorem e28_17 (x : Nat) (ls : mL) (st : List Value) (σ : mS) : ev 28 17 (some (.ref x) :: ls) st σ = ev 28 18 (some (.ref x) :: ls) (.ref x :: st) σ := e_aload1 k28_17 rfl
theorem k28_18 : cod 28 18 = some (.bipush (-9), 2, 0, 0, 0, 0) := rfl
theorem e28_18 (ls : mL) (st : List Value) (σ : mS) : ev 28 18 ls st σ = ev 28 20 ls (.int (-9) :: st) σ := e_bipush (-9) k28_18 (by decide)
theorem k28_20 : cod 28 20 = some (.putfield 21, 3, 2, 3, 0, 0) := rfl
theorem e28_20 (x : Int32) (t : Nat) (ls : mL) (st : List Value) (σ : mS) : ev 28 20 ls (.int x :: .ref t :: st) σ = pfK (σ.1 t) 2 3 (.int x) (fun e => ev 28 23 ls st (mset σ t e)) := e_putI k28_20
theorem k28_23 : cod 28 23 = some (.iconst 0, 1, 0, 0, 0, 0) := rfl
theorem e28_23 (ls : mL) (st : List Value) (σ : mS) : ev 28 23 ls st σ = ev 28 24 ls (.int 0 :: st) σ := e_iconst 0 k28_23 (by decide)
theorem k28_24 : cod 28 24 = some (.istore_n 2, 1, 0, 0, 0, 0) := rfl
theorem e28_24i (a0 : Option Value) (y : Int32) (o : Option Value) (x : Int32) (ls : mL) (st : List Value) (σ : mS) : ev 28 24 (a0 :: some (.int y) :: o :: ls) (.int x :: st) σ = ev 28 25 (a0 :: some (.int y) :: some (.int x) :: ls) st σ := e_istore1 k28_24 (Nat.le_add_left 3 ls.length)
theorem e28_24n (a0 : Option Value) (o : Option Value) (x : Int32) (ls : mL) (st : List Value) (σ : mS) : ev 28 24 (a0 :: none :: o :: ls) (.int x :: st) σ = ev 28 25 (a0 :: none :: some (.int x) :: ls) st σ := e_istore1 k28_24 (Nat.le_add_left 3 ls.length)
theorem e28_24r (a0 : Option Value) (y : Nat) (o : Option Value) (x : Int32) (ls : mL) (st : List Value) (σ : mS) : ev 28 24 (a0 :: some (.ref y) :: o :: ls) (.int x :: st) σ = ev 28 25 (a0 :: some (.ref y) :: some (.int x) :: ls) st σ := e_istore1 k28_24 (Nat.le_add_left 3 ls.length)
theorem k28_25 : cod 28 25 = some (.iload_n 2, 1, 0, 0, 0, 0) := rfl
theorem e28_25 (a0 a1 : Option Value) (x : Int32) (ls : mL) (st : List Value) (σ : mS) : ev 28 25 (a0 :: a1 :: some (.int x) :: ls) st σ = ev 28 26 (a0 :: a1 :: some (.int x) :: ls) (.int x :: st) σ := e_iload1 k28_25 rfl
theorem k28_26 : cod 28 26 = some (.aload_n 1, 1, 0, 0, 0, 0) := rfl
theorem e28_26 (a0 : Option Value) (x : Nat) (ls : mL) (st : List Value) (σ : mS) : ev 28 26 (a0 :: some (.ref x) :: ls) st σ = ev 28 27 (a0 :: some (.ref x) :: ls) (.ref x :: st) σ := e_aload1 k28_26 rfl
theorem k28_27 : cod 28 27 = some (.getfield 24, 3, 6, 6, 1, 0) := rfl
theorem e28_27 (t : Nat) (ls : mL) (st : List Value) (σ : mS) : ev 28 27 ls (.ref t :: st) σ = gfK (σ.1 t) 6 6 (fun v => ev 28 30 ls (v :: st) σ) := e_getf k28_27
theorem k28_30 : cod 28 30 = some (.if_icmp .ge (27), 3, 57, 0, 0, 0) := rfl
theorem e28_30 (x y : Int32) (ls : mL) (st : List Value) (σ : mS) : ev 28 30 ls (.int y :: .int x :: st) σ = if y ≤ x then ev 28 57 ls st σ else ev 28 33 ls st σ := e_ic_ge k28_30
theorem k28_33 : cod 28 33 = some (.iload_n 2, 1, 0, 0, 0, 0) := rfl
theorem e28_33 (a0 a1 : Option Value) (x : Int32) (ls : mL) (st : List Value) (σ : mS) : ev 28 33 (a0 :: a1 :: some (.int x) :: ls) st σ = ev 28 34 (a0 :: a1 :: some (.int x) :: ls) (.int x :: st) σ := e_iload1 k28_33 rfl
theorem k28_34 : cod 28 34 = some (.bipush (10), 2, 0, 0, 0, 0) := rfl
theorem e28_34 (ls : mL) (st : List Value) (σ : mS) : ev 28 34 ls st σ = ev 28 36 ls (.int 10 :: st) σ := e_bipush 10 k28_34 (by decide)
theorem k28_36 : cod 28 36 = some (.if_icmp .ge (21), 3, 57, 0, 0, 0) := rfl
theorem e28_36 (x y : Int32) (ls : mL) (st : List Value) (σ : mS) : ev 28 36 ls (.int y :: .int x :: st) σ = if y ≤ x then ev 28 57 ls st σ else ev 28 39 ls st σ := e_ic_ge k28_36
theorem k28_39 : cod 28 39 = some (.aload_n 0, 1, 0, 0, 0, 0) := rfl
theorem e28_39 (x : Nat) (ls : mL) (st : List Value) (σ : mS) : ev 28 39 (some (.ref x) :: ls) st σ = ev 28 40 (some (.ref x) :: ls) (.ref x :: st) σ := e_aload1 k28_39 rfl
theorem k28_40 : cod 28 40 = some (.aload_n 1, 1, 0, 0, 0, 0) := rfl
theorem e28_40 (a0 : Option Value) (x : Nat) (ls : mL) (st : List Value) (σ : mS) : ev 28 40 (a0 :: some (.ref x) :: ls) st σ = ev 28 41 (a0 :: some (.ref x) :: ls) (.ref x :: st) σ := e_aload1 k28_40 rfl
theorem k28_41 : cod 28 41 = some (.iload_n 2, 1, 0, 0, 0, 0) := rfl
theorem e28_41 (a0 a1 : Option Value) (x : Int32) (ls : mL) (st : List Value) (σ : mS) : ev 28 41 (a0 :: a1 :: some (.int x) :: ls) st σ = ev 28 42 (a0 :: a1 :: some (.int x) :: ls) (.int x :: st) σ := e_iload1 k28_41 rfl
theorem k28_42 : cod 28 42 = some (.invokevirtual 29, 3, 29, 2, 0, 2) := rfl
theorem e28_42 (t : Nat) (x0 : Nat) (x1 : Int32) (ls : mL) (st : List Value) (σ : mS) (hm : mCat st ≤ 8) : ev 28 42 ls (.int x1 :: .ref x0 :: .ref t :: st) σ = isC (σ.1 t) 2 ((evM 29 [.ref t, .ref x0, .int x1] σ).bind fun z => ev 28 45 ls (z.1.toList ++ st) z.2) := e_callVK k28_42 (by decide) rfl ⟨hm, Nat.le_of_ble_eq_true rfl⟩
theorem k28_45 : cod 28 45 = some (.aload_n 0, 1, 0, 0, 0, 0) := rfl
theorem e28_45 (x : Nat) (ls : mL) (st : List Value) (σ : mS) : ev 28 45 (some (.ref x) :: ls) st σ = ev 28 46 (some (.ref x) :: ls) (.ref x :: st) σ := e_aload1 k28_45 rfl
theorem k28_46 : cod 28 46 = some (.aload_n 1, 1, 0, 0, 0, 0) := rfl
theorem e28_46 (a0 : Option Value) (x : Nat) (ls : mL) (st : List Value) (σ : mS) : ev 28 46 (a0 :: some (.ref x) :: ls) st σ = ev 28 47 (a0 :: some (.ref x) :: ls) (.ref x :: st) σ := e_aload1 k28_46 rfl
theorem k28_47 : cod 28 47 = some (.iload_n 2, 1, 0, 0, 0, 0) := rfl
theorem e28_47 (a0 a1 : Option Value) (x : Int32) (ls : mL) (st : List Value) (σ : mS) : ev 28 47 (a0 :: a1 :: some (.int x) :: ls) st σ = ev 28 48 (a0 :: a1 :: some (.int x) :: ls) (.int x :: st) σ := e_iload1 k28_47 rfl
theorem k28_48 : cod 28 48 = some (.invokevirtual 33, 3, 31, 2, 0, 2) := rfl
theorem e28_48 (t : Nat) (x0 : Nat) (x1 : Int32) (ls : mL) (st : List Value) (σ : mS) (hm : mCat st ≤ 8) : ev 28 48 ls (.int x1 :: .ref x0 :: .ref t :: st) σ = isC (σ.1 t) 2 ((evM 31 [.ref t, .ref x0, .int x1] σ).bind fun z => ev 28 51 ls (z.1.toList ++ st) z.2) := e_callVK k28_48 (by decide) rfl ⟨hm, Nat.le_of_ble_eq_true rfl⟩
theorem k28_51 : cod 28 51 = some (.iinc 2 (1), 3, 0, 0, 0, 0) := rfl
theorem e28_51i (a0 : Option Value) (y : Int32) (x : Int32) (ls : mL) (st : List Value) (σ : mS) : ev 28 51 (a0 :: some (.int y) :: some (.int x) :: ls) st σ = ev 28 54 (a0 :: some (.int y) :: some (.int (x + 1)) :: ls) st σ := e_iinc 1 k28_51 (by decide) rfl
theorem e28_51n (a0 : Option Value) (x : Int32) (ls : mL) (st : List Value) (σ : mS) : ev 28 51 (a0 :: none :: some (.int x) :: ls) st σ = ev 28 54 (a0 :: none :: some (.int (x + 1)) :: ls) st σ := e_iinc 1 k28_51 (by decide) rfl
theorem e28_51r (a0 : Option Value) (y : Nat) (x : Int32) (ls : mL) (st : List Value) (σ : mS) : ev 28 51 (a0 :: some (.ref y) :: some (.int x) :: ls) st σ = ev 28 54 (a0 :: some (.ref y) :: some (.int (x + 1)) :: ls) st σ := e_iinc 1 k28_51 (by decide) rfl
theorem k28_54 : cod 28 54 = some (.goto (-29), 3, 25, 0, 0, 0) := rfl
theorem e28_54 (ls : mL) (st : List Value) (σ : mS) : ev 28 54 ls st σ = ev 28 25 ls st σ := e_goto k28_54
theorem k28_57 : cod 28 57 = some (.return_, 1, 0, 0, 0, 0) := rfl
theorem e28_57 (ls : mL) (σ : mS) : ev 28 57 ls [] σ = some (none, σ) := e_vret k28_57 rfl
theorem m28 (t : Nat) (x0 : Nat) (σ : mS) : evM 28 [.ref t, .ref x0] σ = ev 28 0 [some (.ref t), some (.ref x0), none] [] σ := rfl
theorem k29_0 : cod 29 0 = some (.iload_n 2, 1, 0, 0, 0, 0) := rfl
theorem e29_0 (a0 a1 : Option Value) (x : Int32) (ls : mL) (st : List Value) (σ : mS) : ev 29 0 (a0 :: a1 :: some (.int x) :: ls) st σ = ev 29 1 (a0 :: a1 :: some (.int x) :: ls) (.int x :: st) σ := e_iload1 k29_0 rfl
theorem k29_1 : cod 29 1 = some (.ifCond .lt (21), 3, 22, 0, 0, 0) := rfl
theorem e29_1 (x : Int32) (ls : mL) (st : List Value) (σ : mS) : ev 29 1 ls (.int x :: st) σ = if x < 0 then ev 29 22 ls st σ else ev 29 4 ls st σ := e_if_lt k29_1
theorem k29_4 : cod 29 4 = some (.iload_n 2, 1, 0, 0, 0, 0) := rfl
theorem e29_4 (a0 a1 : Option Value) (x : Int32) (ls : mL) (st : List Value) (σ : mS) : ev 29 4 (a0 :: a1 :: some (.int x) :: ls) st σ = ev 29 5 (a0 :: a1 :: some (.int x) :: ls) (.int x :: st) σ := e_iload1 k29_4 rfl
theorem k29_5 : cod 29 5 = some (.bipush (10), 2, 0, 0, 0, 0) := rfl
theorem e29_5 (ls : mL) (st : List Value) (σ : mS) : ev 29 5 ls st σ = ev 29 7 ls (.int 10 :: st) σ := e_bipush 10 k29_5 (by decide)
theorem k29_7 : cod 29 7 = some (.if_icmp .ge (15), 3, 22, 0, 0, 0) := rfl
theorem e29_7 (x y : Int32) (ls : mL) (st : List Value) (σ : mS) : ev 29 7 ls (.int y :: .int x :: st) σ = if y ≤ x then ev 29 22 ls st σ else ev 29 10 ls st σ := e_ic_ge k29_7
theorem k29_10 : cod 29 10 = some (.aload_n 1, 1, 0, 0, 0, 0) := rfl
theorem e29_10 (a0 : Option Value) (x : Nat) (ls : mL) (st : List Value) (σ : mS) : ev 29 10 (a0 :: some (.ref x) :: ls) st σ = ev 29 11 (a0 :: some (.ref x) :: ls) (.ref x :: st) σ := e_aload1 k29_10 rfl
theorem k29_11 : cod 29 11 = some (.getfield 36, 3, 6, 3, 1, 3) := rfl
theorem e29_11 (t : Nat) (ls : mL) (st : List Value) (σ : mS) : ev 29 11 ls (.ref t :: st) σ = gfK (σ.1 t) 6 3 (fun v => ev 29 14 ls (v :: st) σ) := e_getf k29_11
theorem k29_14 : cod 29 14 = some (.iload_n 2, 1, 0, 0, 0, 0) := rfl
theorem e29_14 (a0 a1 : Option Value) (x : Int32) (ls : mL) (st : List Value) (σ : mS) : ev 29 14 (a0 :: a1 :: some (.int x) :: ls) st σ = ev 29 15 (a0 :: a1 :: some (.int x) :: ls) (.int x :: st) σ := e_iload1 k29_14 rfl
theorem k29_15 : cod 29 15 = some (.iaload, 1, 0, 0, 0, 0) := rfl
theorem e29_15 (j : Int32) (t : Nat) (ls : mL) (st : List Value) (σ : mS) : ev 29 15 ls (.int j :: .ref t :: st) σ = alK (σ.1 t) 0 j (fun v => ev 29 16 ls (.int v :: st) σ) := e_iald k29_15
theorem k29_16 : cod 29 16 = some (.invokestatic 40, 3, 85, 1, 1, 0) := rfl
theorem e29_16 (x0 : Int32) (ls : mL) (st : List Value) (σ : mS) (hm : mCat st ≤ 8) : ev 29 16 ls (.int x0 :: st) σ = (evM 85 [.int x0] σ).bind fun z => ev 29 19 ls (z.1.toList ++ st) z.2 := e_callS k29_16 (by decide) rfl ⟨hm, Nat.le_of_ble_eq_true rfl⟩
theorem k29_19 : cod 29 19 = some (.ifCond .ne (4), 3, 23, 0, 0, 0) := rfl
theorem e29_19 (x : Int32) (ls : mL) (st : List Value) (σ : mS) : ev 29 19 ls (.int x :: st) σ = if x = 0 then ev 29 22 ls st σ else ev 29 23 ls st σ := e_if_ne k29_19
theorem k29_22 : cod 29 22 = some (.return_, 1, 0, 0, 0, 0) := rfl
theorem e29_22 (ls : mL) (σ : mS) : ev 29 22 ls [] σ = some (none, σ) := e_vret k29_22 rfl
theorem k29_23 : cod 29 23 = some (.iconst 0, 1, 0, 0, 0, 0) := rfl
theorem e29_23 (ls : mL) (st : List Value) (σ : mS) : ev 29 23 ls st σ = ev 29 24 ls (.int 0 :: st) σ := e_iconst 0 k29_23 (by decide)
theorem k29_24 : cod 29 24 = some (.istore_n 3, 1, 0, 0, 0, 0) := rfl
theorem e29_24i (a0 a1 : Option Value) (y : Int32) (o : Option Value) (x : Int32) (ls : mL) (st : List Value) (σ : mS) : ev 29 24 (a0 :: a1 :: some (.int y) :: o :: ls) (.int x :: st) σ = ev 29 25 (a0 :: a1 :: some (.int y) :: some (.int x) :: ls) st σ := e_istore1 k29_24 (Nat.le_add_left 4 ls.length)
theorem e29_24n (a0 a1 : Option Value) (o : Option Value) (x : Int32) (ls : mL) (st : List Value) (σ : mS) : ev 29 24 (a0 :: a1 :: none :: o :: ls) (.int x :: st) σ = ev 29 25 (a0 :: a1 :: none :: some (.int x) :: ls) st σ := e_istore1 k29_24 (Nat.le_add_left 4 ls.length)
theorem e29_24r (a0 a1 : Option Value) (y : Nat) (o : Option Value) (x : Int32) (ls : mL) (st : List Value) (σ : mS) : ev 29 24 (a0 :: a1 :: some (.ref y) :: o :: ls) (.int x :: st) σ = ev 29 25 (a0 :: a1 :: some (.ref y) :: some (.int x) :: ls) st σ := e_istore1 k29_24 (Nat.le_add_left 4 ls.length)
theorem k29_25 : cod 29 25 = some (.iload_n 3, 1, 0, 0, 0, 0) := rfl
theorem e29_25 (a0 a1 a2 : Option Value) (x : Int32) (ls : mL) (st : List Value) (σ : mS) : ev 29 25 (a0 :: a1 :: a2 :: some (.int x) :: ls) st σ = ev 29 26 (a0 :: a1 :: a2 :: some (.int x) :: ls) (.int x :: st) σ := e_iload1 k29_25 rfl
theorem k29_26 : cod 29 26 = some (.bipush (8), 2, 0, 0, 0, 0) := rfl
theorem e29_26 (ls : mL) (st : List Value) (σ : mS) : ev 29 26 ls st σ = ev 29 28 ls (.int 8 :: st) σ := e_bipush 8 k29_26 (by decide)
theorem k29_28 : cod 29 28 = some (.if_icmp .ge (73), 3, 101, 0, 0, 0) := rfl
theorem e29_28 (x y : Int32) (ls : mL) (st : List Value) (σ : mS) : ev 29 28 ls (.int y :: .int x :: st) σ = if y ≤ x then ev 29 101 ls st σ else ev 29 31 ls st σ := e_ic_ge k29_28
theorem k29_31 : cod 29 31 = some (.aload_n 1, 1, 0, 0, 0, 0) := rfl
theorem e29_31 (a0 : Option Value) (x : Nat) (ls : mL) (st : List Value) (σ : mS) : ev 29 31 (a0 :: some (.ref x) :: ls) st σ = ev 29 32 (a0 :: some (.ref x) :: ls) (.ref x :: st) σ := e_aload1 k29_31 rfl
theorem k29_32 : cod 29 32 = some (.iconst 1, 1, 0, 0, 0, 0) := rfl
theorem e29_32 (ls : mL) (st : List Value) (σ : mS) : ev 29 32 ls st σ = ev 29 33 ls (.int 1 :: st) σ := e_iconst 1 k29_32 (by decide)
theorem k29_33 : cod 29 33 = some (.aload_n 1, 1, 0, 0, 0, 0) := rfl
theorem e29_33 (a0 : Option Value) (x : Nat) (ls : mL) (st : List Value) (σ : mS) : ev 29 33 (a0 :: some (.ref x) :: ls) st σ = ev 29 34 (a0 :: some (.ref x) :: ls) (.ref x :: st) σ := e_aload1 k29_33 rfl
theorem k29_34 : cod 29 34 = some (.getfield 36, 3, 6, 3, 1, 3) := rfl
theorem e29_34 (t : Nat) (ls : mL) (st : List Value) (σ : mS) : ev 29 34 ls (.ref t :: st) σ = gfK (σ.1 t) 6 3 (fun v => ev 29 37 ls (v :: st) σ) := e_getf k29_34
theorem k29_37 : cod 29 37 = some (.iload_n 2, 1, 0, 0, 0, 0) := rfl
theorem e29_37 (a0 a1 : Option Value) (x : Int32) (ls : mL) (st : List Value) (σ : mS) : ev 29 37 (a0 :: a1 :: some (.int x) :: ls) st σ = ev 29 38 (a0 :: a1 :: some (.int x) :: ls) (.int x :: st) σ := e_iload1 k29_37 rfl
theorem k29_38 : cod 29 38 = some (.iaload, 1, 0, 0, 0, 0) := rfl
theorem e29_38 (j : Int32) (t : Nat) (ls : mL) (st : List Value) (σ : mS) : ev 29 38 ls (.int j :: .ref t :: st) σ = alK (σ.1 t) 0 j (fun v => ev 29 39 ls (.int v :: st) σ) := e_iald k29_38
theorem k29_39 : cod 29 39 = some (.ishl, 1, 0, 0, 0, 0) := rfl
theorem e29_39 (x y : Int32) (ls : mL) (st : List Value) (σ : mS) : ev 29 39 ls (.int y :: .int x :: st) σ = ev 29 40 ls (.int (x <<< (y &&& 31)) :: st) σ := e_ishl k29_39
theorem k29_40 : cod 29 40 = some (.iload_n 3, 1, 0, 0, 0, 0) := rfl
theorem e29_40 (a0 a1 a2 : Option Value) (x : Int32) (ls : mL) (st : List Value) (σ : mS) : ev 29 40 (a0 :: a1 :: a2 :: some (.int x) :: ls) st σ = ev 29 41 (a0 :: a1 :: a2 :: some (.int x) :: ls) (.int x :: st) σ := e_iload1 k29_40 rfl
theorem k29_41 : cod 29 41 = some (.invokevirtual 44, 3, 68, 2, 0, 6) := rfl
theorem e29_41 (t : Nat) (x0 : Int32) (x1 : Int32) (ls : mL) (st : List Value) (σ : mS) (hm : mCat st ≤ 8) : ev 29 41 ls (.int x1 :: .int x0 :: .ref t :: st) σ = isC (σ.1 t) 6 ((evM 68 [.ref t, .int x0, .int x1] σ).bind fun z => ev 29 44 ls (z.1.toList ++ st) z.2) := e_callVK k29_41 (by decide) rfl ⟨hm, Nat.le_of_ble_eq_true rfl⟩
theorem k29_44 : cod 29 44 = some (.istore 4, 2, 0, 0, 0, 0) := rfl
theorem e29_44i (a0 a1 a2 : Option Value) (y : Int32) (o : Option Value) (x : Int32) (ls : mL) (st : List Value) (σ : mS) : ev 29 44 (a0 :: a1 :: a2 :: some (.int y) :: o :: ls) (.int x :: st) σ = ev 29 46 (a0 :: a1 :: a2 :: some (.int y) :: some (.int x) :: ls) st σ := e_istore0 k29_44 (Nat.le_add_left 5 ls.length)
theorem e29_44n (a0 a1 a2 : Option Value) (o : Option Value) (x : Int32) (ls : mL) (st : List Value) (σ : mS) : ev 29 44 (a0 :: a1 :: a2 :: none :: o :: ls) (.int x :: st) σ = ev 29 46 (a0 :: a1 :: a2 :: none :: some (.int x) :: ls) st σ := e_istore0 k29_44 (Nat.le_add_left 5 ls.length)
theorem e29_44r (a0 a1 a2 : Option Value) (y : Nat) (o : Option Value) (x : Int32) (ls : mL) (st : List Value) (σ : mS) : ev 29 44 (a0 :: a1 :: a2 :: some (.ref y) :: o :: ls) (.int x :: st) σ = ev 29 46 (a0 :: a1 :: a2 :: some (.ref y) :: some (.int x) :: ls) st σ := e_istore0 k29_44 (Nat.le_add_left 5 ls.length)
theorem k29_46 : cod 29 46 = some (.iconst 0, 1, 0, 0, 0, 0) := rfl
theorem e29_46 (ls : mL) (st : List Value) (σ : mS) : ev 29 46 ls st σ = ev 29 47 ls (.int 0 :: st) σ := e_iconst 0 k29_46 (by decide)
theorem k29_47 : cod 29 47 = some (.istore 5, 2, 0, 0, 0, 0) := rfl
theorem e29_47i (a0 a1 a2 a3 : Option Value) (y : Int32) (o : Option Value) (x : Int32) (ls : mL) (st : List Value) (σ : mS) : ev 29 47 (a0 :: a1 :: a2 :: a3 :: some (.int y) :: o :: ls) (.int x :: st) σ = ev 29 49 (a0 :: a1 :: a2 :: a3 :: some (.int y) :: some (.int x) :: ls) st σ := e_istore0 k29_47 (Nat.le_add_left 6 ls.length)
theorem e29_47n (a0 a1 a2 a3 : Option Value) (o : Option Value) (x : Int32) (ls : mL) (st : List Value) (σ : mS) : ev 29 47 (a0 :: a1 :: a2 :: a3 :: none :: o :: ls) (.int x :: st) σ = ev 29 49 (a0 :: a1 :: a2 :: a3 :: none :: some (.int x) :: ls) st σ := e_istore0 k29_47 (Nat.le_add_left 6 ls.length)
theorem e29_47r (a0 a1 a2 a3 : Option Value) (y : Nat) (o : Option Value) (x : Int32) (ls : mL) (st : List Value) (σ : mS) : ev 29 47 (a0 :: a1 :: a2 :: a3 :: some (.ref y) :: o :: ls) (.int x :: st) σ = ev 29 49 (a0 :: a1 :: a2 :: a3 :: some (.ref y) :: some (.int x) :: ls) st σ := e_istore0 k29_47 (Nat.le_add_left 6 ls.length)
theorem k29_49 : cod 29 49 = some (.iload 5, 2, 0, 0, 0, 0) := rfl
theorem e29_49 (a0 a1 a2 a3 a4 : Option Value) (x : Int32) (ls : mL) (st : List Value) (σ : mS) : ev 29 49 (a0 :: a1 :: a2 :: a3 :: a4 :: some (.int x) :: ls) st σ = ev 29 51 (a0 :: a1 :: a2 :: a3 :: a4 :: some (.int x) :: ls) (.int x :: st) σ := e_iload0 k29_49 rfl
theorem k29_51 : cod 29 51 = some (.bipush (8), 2, 0, 0, 0, 0) := rfl
theorem e29_51 (ls : mL) (st : List Value) (σ : mS) : ev 29 51 ls st σ = ev 29 53 ls (.int 8 :: st) σ := e_bipush 8 k29_51 (by decide)
theorem k29_53 : cod 29 53 = some (.if_icmp .ge (42), 3, 95, 0, 0, 0) := rfl
theorem e29_53 (x y : Int32) (ls : mL) (st : List Value) (σ : mS) : ev 29 53 ls (.int y :: .int x :: st) σ = if y ≤ x then ev 29 95 ls st σ else ev 29 56 ls st σ := e_ic_ge k29_53
theorem k29_56 : cod 29 56 = some (.aload_n 1, 1, 0, 0, 0, 0) := rfl
theorem e29_56 (a0 : Option Value) (x : Nat) (ls : mL) (st : List Value) (σ : mS) : ev 29 56 (a0 :: some (.ref x) :: ls) st σ = ev 29 57 (a0 :: some (.ref x) :: ls) (.ref x :: st) σ := e_aload1 k29_56 rfl
theorem k29_57 : cod 29 57 = some (.iload 4, 2, 0, 0, 0, 0) := rfl
theorem e29_57 (a0 a1 a2 a3 : Option Value) (x : Int32) (ls : mL) (st : List Value) (σ : mS) : ev 29 57 (a0 :: a1 :: a2 :: a3 :: some (.int x) :: ls) st σ = ev 29 59 (a0 :: a1 :: a2 :: a3 :: some (.int x) :: ls) (.int x :: st) σ := e_iload0 k29_57 rfl
theorem k29_59 : cod 29 59 = some (.iload 5, 2, 0, 0, 0, 0) := rfl
theorem e29_59 (a0 a1 a2 a3 a4 : Option Value) (x : Int32) (ls : mL) (st : List Value) (σ : mS) : ev 29 59 (a0 :: a1 :: a2 :: a3 :: a4 :: some (.int x) :: ls) st σ = ev 29 61 (a0 :: a1 :: a2 :: a3 :: a4 :: some (.int x) :: ls) (.int x :: st) σ := e_iload0 k29_59 rfl
theorem k29_61 : cod 29 61 = some (.invokevirtual 44, 3, 68, 2, 0, 6) := rfl
theorem e29_61 (t : Nat) (x0 : Int32) (x1 : Int32) (ls : mL) (st : List Value) (σ : mS) (hm : mCat st ≤ 8) : ev 29 61 ls (.int x1 :: .int x0 :: .ref t :: st) σ = isC (σ.1 t) 6 ((evM 68 [.ref t, .int x0, .int x1] σ).bind fun z => ev 29 64 ls (z.1.toList ++ st) z.2) := e_callVK k29_61 (by decide) rfl ⟨hm, Nat.le_of_ble_eq_true rfl⟩
theorem k29_64 : cod 29 64 = some (.aload_n 1, 1, 0, 0, 0, 0) := rfl
theorem e29_64 (a0 : Option Value) (x : Nat) (ls : mL) (st : List Value) (σ : mS) : ev 29 64 (a0 :: some (.ref x) :: ls) st σ = ev 29 65 (a0 :: some (.ref x) :: ls) (.ref x :: st) σ := e_aload1 k29_64 rfl
theorem k29_65 : cod 29 65 = some (.getfield 48, 3, 6, 4, 1, 3) := rfl
theorem e29_65 (t : Nat) (ls : mL) (st : List Value) (σ : mS) : ev 29 65 ls (.ref t :: st) σ = gfK (σ.1 t) 6 4 (fun v => ev 29 68 ls (v :: st) σ) := e_getf k29_65
theorem k29_68 : cod 29 68 = some (.iload_n 2, 1, 0, 0, 0, 0) := rfl
theorem e29_68 (a0 a1 : Option Value) (x : Int32) (ls : mL) (st : List Value) (σ : mS) : ev 29 68 (a0 :: a1 :: some (.int x) :: ls) st σ = ev 29 69 (a0 :: a1 :: some (.int x) :: ls) (.int x :: st) σ := e_iload1 k29_68 rfl
theorem k29_69 : cod 29 69 = some (.iaload, 1, 0, 0, 0, 0) := rfl
theorem e29_69 (j : Int32) (t : Nat) (ls : mL) (st : List Value) (σ : mS) : ev 29 69 ls (.int j :: .ref t :: st) σ = alK (σ.1 t) 0 j (fun v => ev 29 70 ls (.int v :: st) σ) := e_iald k29_69
theorem k29_70 : cod 29 70 = some (.invokestatic 51, 3, 84, 2, 1, 0) := rfl
theorem e29_70 (x0 : Int32) (x1 : Int32) (ls : mL) (st : List Value) (σ : mS) (hm : mCat st ≤ 8) : ev 29 70 ls (.int x1 :: .int x0 :: st) σ = (evM 84 [.int x0, .int x1] σ).bind fun z => ev 29 73 ls (z.1.toList ++ st) z.2 := e_callS k29_70 (by decide) rfl ⟨hm, Nat.le_of_ble_eq_true rfl⟩
theorem k29_73 : cod 29 73 = some (.ifCond .eq (16), 3, 89, 0, 0, 0) := rfl
theorem e29_73 (x : Int32) (ls : mL) (st : List Value) (σ : mS) : ev 29 73 ls (.int x :: st) σ = if x = 0 then ev 29 89 ls st σ else ev 29 76 ls st σ := e_if_eq k29_73
theorem k29_76 : cod 29 76 = some (.aload_n 0, 1, 0, 0, 0, 0) := rfl
theorem e29_76 (x : Nat) (ls : mL) (st : List Value) (σ : mS) : ev 29 76 (some (.ref x) :: ls) st σ = ev 29 77 (some (.ref x) :: ls) (.ref x :: st) σ := e_aload1 k29_76 rfl
theorem k29_77 : cod 29 77 = some (.iload_n 2, 1, 0, 0, 0, 0) := rfl
theorem e29_77 (a0 a1 : Option Value) (x : Int32) (ls : mL) (st : List Value) (σ : mS) : ev 29 77 (a0 :: a1 :: some (.int x) :: ls) st σ = ev 29 78 (a0 :: a1 :: some (.int x) :: ls) (.int x :: st) σ := e_iload1 k29_77 rfl
theorem k29_78 : cod 29 78 = some (.iconst 2, 1, 0, 0, 0, 0) := rfl
theorem e29_78 (ls : mL) (st : List Value) (σ : mS) : ev 29 78 ls st σ = ev 29 79 ls (.int 2 :: st) σ := e_iconst 2 k29_78 (by decide)
theorem k29_79 : cod 29 79 = some (.iload_n 3, 1, 0, 0, 0, 0) := rfl
theorem e29_79 (a0 a1 a2 : Option Value) (x : Int32) (ls : mL) (st : List Value) (σ : mS) : ev 29 79 (a0 :: a1 :: a2 :: some (.int x) :: ls) st σ = ev 29 80 (a0 :: a1 :: a2 :: some (.int x) :: ls) (.int x :: st) σ := e_iload1 k29_79 rfl
theorem k29_80 : cod 29 80 = some (.bipush (8), 2, 0, 0, 0, 0) := rfl
theorem e29_80 (ls : mL) (st : List Value) (σ : mS) : ev 29 80 ls st σ = ev 29 82 ls (.int 8 :: st) σ := e_bipush 8 k29_80 (by decide)
theorem k29_82 : cod 29 82 = some (.iload 5, 2, 0, 0, 0, 0) := rfl
theorem e29_82 (a0 a1 a2 a3 a4 : Option Value) (x : Int32) (ls : mL) (st : List Value) (σ : mS) : ev 29 82 (a0 :: a1 :: a2 :: a3 :: a4 :: some (.int x) :: ls) st σ = ev 29 84 (a0 :: a1 :: a2 :: a3 :: a4 :: some (.int x) :: ls) (.int x :: st) σ := e_iload0 k29_82 rfl
theorem k29_84 : cod 29 84 = some (.imul, 1, 0, 0, 0, 0) := rfl
theorem e29_84 (x y : Int32) (ls : mL) (st : List Value) (σ : mS) : ev 29 84 ls (.int y :: .int x :: st) σ = ev 29 85 ls (.int (x * y) :: st) σ := e_imul k29_84
theorem k29_85 : cod 29 85 = some (.iadd, 1, 0, 0, 0, 0) := rfl
theorem e29_85 (x y : Int32) (ls : mL) (st : List Value) (σ : mS) : ev 29 85 ls (.int y :: .int x :: st) σ = ev 29 86 ls (.int (x + y) :: st) σ := e_iadd k29_85
theorem k29_86 : cod 29 86 = some (.invokevirtual 55, 3, 30, 3, 0, 2) := rfl
theorem e29_86 (t : Nat) (x0 : Int32) (x1 : Int32) (x2 : Int32) (ls : mL) (st : List Value) (σ : mS) (hm : mCat st ≤ 8) : ev 29 86 ls (.int x2 :: .int x1 :: .int x0 :: .ref t :: st) σ = isC (σ.1 t) 2 ((evM 30 [.ref t, .int x0, .int x1, .int x2] σ).bind fun z => ev 29 89 ls (z.1.toList ++ st) z.2) := e_callVK k29_86 (by decide) rfl ⟨hm, Nat.le_of_ble_eq_true rfl⟩
theorem k29_89 : cod 29 89 = some (.iinc 5 (1), 3, 0, 0, 0, 0) := rfl
theorem e29_89i (a0 a1 a2 a3 : Option Value) (y : Int32) (x : Int32) (ls : mL) (st : List Value) (σ : mS) : ev 29 89 (a0 :: a1 :: a2 :: a3 :: some (.int y) :: some (.int x) :: ls) st σ = ev 29 92 (a0 :: a1 :: a2 :: a3 :: some (.int y) :: some (.int (x + 1)) :: ls) st σ := e_iinc 1 k29_89 (by decide) rfl
theorem e29_89n (a0 a1 a2 a3 : Option Value) (x : Int32) (ls : mL) (st : List Value) (σ : mS) : ev 29 89 (a0 :: a1 :: a2 :: a3 :: none :: some (.int x) :: ls) st σ = ev 29 92 (a0 :: a1 :: a2 :: a3 :: none :: some (.int (x + 1)) :: ls) st σ := e_iinc 1 k29_89 (by decide) rfl
theorem e29_89r (a0 a1 a2 a3 : Option Value) (y : Nat) (x : Int32) (ls : mL) (st : List Value) (σ : mS) : ev 29 89 (a0 :: a1 :: a2 :: a3 :: some (.ref y) :: some (.int x) :: ls) st σ = ev 29 92 (a0 :: a1 :: a2 :: a3 :: some (.ref y) :: some (.int (x + 1)) :: ls) st σ := e_iinc 1 k29_89 (by decide) rfl
theorem k29_92 : cod 29 92 = some (.goto (-43), 3, 49, 0, 0, 0) := rfl
theorem e29_92 (ls : mL) (st : List Value) (σ : mS) : ev 29 92 ls st σ = ev 29 49 ls st σ := e_goto k29_92
theorem k29_95 : cod 29 95 = some (.iinc 3 (1), 3, 0, 0, 0, 0) := rfl
theorem e29_95i (a0 a1 : Option Value) (y : Int32) (x : Int32) (ls : mL) (st : List Value) (σ : mS) : ev 29 95 (a0 :: a1 :: some (.int y) :: some (.int x) :: ls) st σ = ev 29 98 (a0 :: a1 :: some (.int y) :: some (.int (x + 1)) :: ls) st σ := e_iinc 1 k29_95 (by decide) rfl
theorem e29_95n (a0 a1 : Option Value) (x : Int32) (ls : mL) (st : List Value) (σ : mS) : ev 29 95 (a0 :: a1 :: none :: some (.int x) :: ls) st σ = ev 29 98 (a0 :: a1 :: none :: some (.int (x + 1)) :: ls) st σ := e_iinc 1 k29_95 (by decide) rfl
theorem e29_95r (a0 a1 : Option Value) (y : Nat) (x : Int32) (ls : mL) (st : List Value) (σ : mS) : ev 29 95 (a0 :: a1 :: some (.ref y) :: some (.int x) :: ls) st σ = ev 29 98 (a0 :: a1 :: some (.ref y) :: some (.int (x + 1)) :: ls) st σ := e_iinc 1 k29_95 (by decide) rfl
theorem k29_98 : cod 29 98 = some (.goto (-73), 3, 25, 0, 0, 0) := rfl
theorem e29_98 (ls : mL) (st : List Value) (σ : mS) : ev 29 98 ls st σ = ev 29 25 ls st σ := e_goto k29_98
theorem k29_101 : cod 29 101 = some (.return_, 1, 0, 0, 0, 0) := rfl
theorem e29_101 (ls : mL) (σ : mS) : ev 29 101 ls [] σ = some (none, σ) := e_vret k29_101 rfl
theorem m29 (t : Nat) (x0 : Nat) (x1 : Int32) (σ : mS) : evM 29 [.ref t, .ref x0, .int x1] σ = ev 29 0 [some (.ref t), some (.ref x0), some (.int x1), none, none, none] [] σ := rfl
theorem k30_0 : cod 30 0 = some (.aload_n 0, 1, 0, 0, 0, 0) := rfl
theorem e30_0 (x : Nat) (ls : mL) (st : List Value) (σ : mS) : ev 30 0 (some (.ref x) :: ls) st σ = ev 30 1 (some (.ref x) :: ls) (.ref x :: st) σ := e_aload1 k30_0 rfl
theorem k30_1 : cod 30 1 = some (.getfield 9, 3, 2, 0, 0, 0) := rfl
theorem e30_1 (t : Nat) (ls : mL) (st : List Value) (σ : mS) : ev 30 1 ls (.ref t :: st) σ = gfK (σ.1 t) 2 0 (fun v => ev 30 4 ls (v :: st) σ) := e_getf k30_1
theorem k30_4 : cod 30 4 = some (.ifCond .ne (18), 3, 22, 0, 0, 0) := rfl
theorem e30_4 (x : Int32) (ls : mL) (st : List Value) (σ : mS) : ev 30 4 ls (.int x :: st) σ = if x = 0 then ev 30 7 ls st σ else ev 30 22 ls st σ := e_if_ne k30_4
theorem k30_7 : cod 30 7 = some (.aload_n 0, 1, 0, 0, 0, 0) := rfl
theorem e30_7 (x : Nat) (ls : mL) (st : List Value) (σ : mS) : ev 30 7 (some (.ref x) :: ls) st σ = ev 30 8 (some (.ref x) :: ls) (.ref x :: st) σ := e_aload1 k30_7 rfl
theorem k30_8 : cod 30 8 = some (.iload_n 1, 1, 0, 0, 0, 0) := rfl
theorem e30_8 (a0 : Option Value) (x : Int32) (ls : mL) (st : List Value) (σ : mS) : ev 30 8 (a0 :: some (.int x) :: ls) st σ = ev 30 9 (a0 :: some (.int x) :: ls) (.int x :: st) σ := e_iload1 k30_8 rfl
theorem k30_9 : cod 30 9 = some (.putfield 15, 3, 2, 1, 0, 0) := rfl
theorem e30_9 (x : Int32) (t : Nat) (ls : mL) (st : List Value) (σ : mS) : ev 30 9 ls (.int x :: .ref t :: st) σ = pfK (σ.1 t) 2 1 (.int x) (fun e => ev 30 12 ls st (mset σ t e)) := e_putI k30_9
theorem k30_12 : cod 30 12 = some (.aload_n 0, 1, 0, 0, 0, 0) := rfl
theorem e30_12 (x : Nat) (ls : mL) (st : List Value) (σ : mS) : ev 30 12 (some (.ref x) :: ls) st σ = ev 30 13 (some (.ref x) :: ls) (.ref x :: st) σ := e_aload1 k30_12 rfl
theorem k30_13 : cod 30 13 = some (.iload_n 2, 1, 0, 0, 0, 0) := rfl
theorem e30_13 (a0 a1 : Option Value) (x : Int32) (ls : mL) (st : List Value) (σ : mS) : ev 30 13 (a0 :: a1 :: some (.int x) :: ls) st σ = ev 30 14 (a0 :: a1 :: some (.int x) :: ls) (.int x :: st) σ := e_iload1 k30_13 rfl
theorem k30_14 : cod 30 14 = some (.putfield 18, 3, 2, 2, 0, 0) := rfl
theorem e30_14 (x : Int32) (t : Nat) (ls : mL) (st : List Value) (σ : mS) : ev 30 14 ls (.int x :: .ref t :: st) σ = pfK (σ.1 t) 2 2 (.int x) (fun e => ev 30 17 ls st (mset σ t e)) := e_putI k30_14
theorem k30_17 : cod 30 17 = some (.aload_n 0, 1, 0, 0, 0, 0) := rfl
theorem e30_17 (x : Nat) (ls : mL) (st : List Value) (σ : mS) : ev 30 17 (some (.ref x) :: ls) st σ = ev 30 18 (some (.ref x) :: ls) (.ref x :: st) σ := e_aload1 k30_17 rfl
theorem k30_18 : cod 30 18 = some (.iload_n 3, 1, 0, 0, 0, 0) := rfl
theorem e30_18 (a0 a1 a2 : Option Value) (x : Int32) (ls : mL) (st : List Value) (σ : mS) : ev 30 18 (a0 :: a1 :: a2 :: some (.int x) :: ls) st σ = ev 30 19 (a0 :: a1 :: a2 :: some (.int x) :: ls) (.int x :: st) σ := e_iload1 k30_18 rfl
theorem k30_19 : cod 30 19 = some (.putfield 21, 3, 2, 3, 0, 0) := rfl
theorem e30_19 (x : Int32) (t : Nat) (ls : mL) (st : List Value) (σ : mS) : ev 30 19 ls (.int x :: .ref t :: st) σ = pfK (σ.1 t) 2 3 (.int x) (fun e => ev 30 22 ls st (mset σ t e)) := e_putI k30_19
theorem k30_22 : cod 30 22 = some (.aload_n 0, 1, 0, 0, 0, 0) := rfl
theorem e30_22 (x : Nat) (ls : mL) (st : List Value) (σ : mS) : ev 30 22 (some (.ref x) :: ls) st σ = ev 30 23 (some (.ref x) :: ls) (.ref x :: st) σ := e_aload1 k30_22 rfl
theorem k30_23 : cod 30 23 = some (.dup, 1, 0, 0, 0, 0) := rfl
theorem e30_23i (x : Int32) (ls : mL) (st : List Value) (σ : mS) : ev 30 23 ls (.int x :: st) σ = ev 30 24 ls (.int x :: .int x :: st) σ := e_dupI k30_23
theorem e30_23r (x : Nat) (ls : mL) (st : List Value) (σ : mS) : ev 30 23 ls (.ref x :: st) σ = ev 30 24 ls (.ref x :: .ref x :: st) σ := e_dupR k30_23
theorem k30_24 : cod 30 24 = some (.getfield 9, 3, 2, 0, 0, 0) := rfl
theorem e30_24 (t : Nat) (ls : mL) (st : List Value) (σ : mS) : ev 30 24 ls (.ref t :: st) σ = gfK (σ.1 t) 2 0 (fun v => ev 30 27 ls (v :: st) σ) := e_getf k30_24
theorem k30_27 : cod 30 27 = some (.iconst 1, 1, 0, 0, 0, 0) := rfl
theorem e30_27 (ls : mL) (st : List Value) (σ : mS) : ev 30 27 ls st σ = ev 30 28 ls (.int 1 :: st) σ := e_iconst 1 k30_27 (by decide)
theorem k30_28 : cod 30 28 = some (.iadd, 1, 0, 0, 0, 0) := rfl
theorem e30_28 (x y : Int32) (ls : mL) (st : List Value) (σ : mS) : ev 30 28 ls (.int y :: .int x :: st) σ = ev 30 29 ls (.int (x + y) :: st) σ := e_iadd k30_28
theorem k30_29 : cod 30 29 = some (.putfield 9, 3, 2, 0, 0, 0) := rfl
theorem e30_29 (x : Int32) (t : Nat) (ls : mL) (st : List Value) (σ : mS) : ev 30 29 ls (.int x :: .ref t :: st) σ = pfK (σ.1 t) 2 0 (.int x) (fun e => ev 30 32 ls st (mset σ t e)) := e_putI k30_29
theorem k30_32 : cod 30 32 = some (.return_, 1, 0, 0, 0, 0) := rfl
theorem e30_32 (ls : mL) (σ : mS) : ev 30 32 ls [] σ = some (none, σ) := e_vret k30_32 rfl
theorem m30 (t : Nat) (x0 : Int32) (x1 : Int32) (x2 : Int32) (σ : mS) : evM 30 [.ref t, .int x0, .int x1, .int x2] σ = ev 30 0 [some (.ref t), some (.int x0), some (.int x1), some (.int x2)] [] σ := rfl
theorem k31_0 : cod 31 0 = some (.iload_n 2, 1, 0, 0, 0, 0) := rfl
theorem e31_0 (a0 a1 : Option Value) (x : Int32) (ls : mL) (st : List Value) (σ : mS) : ev 31 0 (a0 :: a1 :: some (.int x) :: ls) st σ = ev 31 1 (a0 :: a1 :: some (.int x) :: ls) (.int x :: st) σ := e_iload1 k31_0 rfl
theorem k31_1 : cod 31 1 = some (.ifCond .lt (21), 3, 22, 0, 0, 0) := rfl
theorem e31_1 (x : Int32) (ls : mL) (st : List Value) (σ : mS) : ev 31 1 ls (.int x :: st) σ = if x < 0 then ev 31 22 ls st σ else ev 31 4 ls st σ := e_if_lt k31_1
theorem k31_4 : cod 31 4 = some (.iload_n 2, 1, 0, 0, 0, 0) := rfl
theorem e31_4 (a0 a1 : Option Value) (x : Int32) (ls : mL) (st : List Value) (σ : mS) : ev 31 4 (a0 :: a1 :: some (.int x) :: ls) st σ = ev 31 5 (a0 :: a1 :: some (.int x) :: ls) (.int x :: st) σ := e_iload1 k31_4 rfl
theorem k31_5 : cod 31 5 = some (.bipush (10), 2, 0, 0, 0, 0) := rfl
theorem e31_5 (ls : mL) (st : List Value) (σ : mS) : ev 31 5 ls st σ = ev 31 7 ls (.int 10 :: st) σ := e_bipush 10 k31_5 (by decide)
theorem k31_7 : cod 31 7 = some (.if_icmp .ge (15), 3, 22, 0, 0, 0) := rfl
theorem e31_7 (x y : Int32) (ls : mL) (st : List Value) (σ : mS) : ev 31 7 ls (.int y :: .int x :: st) σ = if y ≤ x then ev 31 22 ls st σ else ev 31 10 ls st σ := e_ic_ge k31_7
theorem k31_10 : cod 31 10 = some (.aload_n 1, 1, 0, 0, 0, 0) := rfl
theorem e31_10 (a0 : Option Value) (x : Nat) (ls : mL) (st : List Value) (σ : mS) : ev 31 10 (a0 :: some (.ref x) :: ls) st σ = ev 31 11 (a0 :: some (.ref x) :: ls) (.ref x :: st) σ := e_aload1 k31_10 rfl
theorem k31_11 : cod 31 11 = some (.getfield 36, 3, 6, 3, 1, 3) := rfl
theorem e31_11 (t : Nat) (ls : mL) (st : List Value) (σ : mS) : ev 31 11 ls (.ref t :: st) σ = gfK (σ.1 t) 6 3 (fun v => ev 31 14 ls (v :: st) σ) := e_getf k31_11
theorem k31_14 : cod 31 14 = some (.iload_n 2, 1, 0, 0, 0, 0) := rfl
theorem e31_14 (a0 a1 : Option Value) (x : Int32) (ls : mL) (st : List Value) (σ : mS) : ev 31 14 (a0 :: a1 :: some (.int x) :: ls) st σ = ev 31 15 (a0 :: a1 :: some (.int x) :: ls) (.int x :: st) σ := e_iload1 k31_14 rfl
theorem k31_15 : cod 31 15 = some (.iaload, 1, 0, 0, 0, 0) := rfl
theorem e31_15 (j : Int32) (t : Nat) (ls : mL) (st : List Value) (σ : mS) : ev 31 15 ls (.int j :: .ref t :: st) σ = alK (σ.1 t) 0 j (fun v => ev 31 16 ls (.int v :: st) σ) := e_iald k31_15
theorem k31_16 : cod 31 16 = some (.invokestatic 40, 3, 85, 1, 1, 0) := rfl
theorem e31_16 (x0 : Int32) (ls : mL) (st : List Value) (σ : mS) (hm : mCat st ≤ 8) : ev 31 16 ls (.int x0 :: st) σ = (evM 85 [.int x0] σ).bind fun z => ev 31 19 ls (z.1.toList ++ st) z.2 := e_callS k31_16 (by decide) rfl ⟨hm, Nat.le_of_ble_eq_true rfl⟩
theorem k31_19 : cod 31 19 = some (.ifCond .ne (4), 3, 23, 0, 0, 0) := rfl
theorem e31_19 (x : Int32) (ls : mL) (st : List Value) (σ : mS) : ev 31 19 ls (.int x :: st) σ = if x = 0 then ev 31 22 ls st σ else ev 31 23 ls st σ := e_if_ne k31_19
theorem k31_22 : cod 31 22 = some (.return_, 1, 0, 0, 0, 0) := rfl
theorem e31_22 (ls : mL) (σ : mS) : ev 31 22 ls [] σ = some (none, σ) := e_vret k31_22 rfl
theorem k31_23 : cod 31 23 = some (.iconst 0, 1, 0, 0, 0, 0) := rfl
theorem e31_23 (ls : mL) (st : List Value) (σ : mS) : ev 31 23 ls st σ = ev 31 24 ls (.int 0 :: st) σ := e_iconst 0 k31_23 (by decide)
theorem k31_24 : cod 31 24 = some (.istore_n 3, 1, 0, 0, 0, 0) := rfl
theorem e31_24i (a0 a1 : Option Value) (y : Int32) (o : Option Value) (x : Int32) (ls : mL) (st : List Value) (σ : mS) : ev 31 24 (a0 :: a1 :: some (.int y) :: o :: ls) (.int x :: st) σ = ev 31 25 (a0 :: a1 :: some (.int y) :: some (.int x) :: ls) st σ := e_istore1 k31_24 (Nat.le_add_left 4 ls.length)
theorem e31_24n (a0 a1 : Option Value) (o : Option Value) (x : Int32) (ls : mL) (st : List Value) (σ : mS) : ev 31 24 (a0 :: a1 :: none :: o :: ls) (.int x :: st) σ = ev 31 25 (a0 :: a1 :: none :: some (.int x) :: ls) st σ := e_istore1 k31_24 (Nat.le_add_left 4 ls.length)
theorem e31_24r (a0 a1 : Option Value) (y : Nat) (o : Option Value) (x : Int32) (ls : mL) (st : List Value) (σ : mS) : ev 31 24 (a0 :: a1 :: some (.ref y) :: o :: ls) (.int x :: st) σ = ev 31 25 (a0 :: a1 :: some (.ref y) :: some (.int x) :: ls) st σ := e_istore1 k31_24 (Nat.le_add_left 4 ls.length)
theorem k31_25 : cod 31 25 = some (.iload_n 3, 1, 0, 0, 0, 0) := rfl
theorem e31_25 (a0 a1 a2 : Option Value) (x : Int32) (ls : mL) (st : List Value) (σ : mS) : ev 31 25 (a0 :: a1 :: a2 :: some (.int x) :: ls) st σ = ev 31 26 (a0 :: a1 :: a2 :: some (.int x) :: ls) (.int x :: st) σ := e_iload1 k31_25 rfl
theorem k31_26 : cod 31 26 = some (.bipush (8), 2, 0, 0, 0, 0) := rfl
theorem e31_26 (ls : mL) (st : List Value) (σ : mS) : ev 31 26 ls st σ = ev 31 28 ls (.int 8 :: st) σ := e_bipush 8 k31_26 (by decide)
theorem k31_28 : cod 31 28 = some (.if_icmp .ge (105), 3, 133, 0, 0, 0) := rfl
theorem e31_28 (x y : Int32) (ls : mL) (st : List Value) (σ : mS) : ev 31 28 ls (.int y :: .int x :: st) σ = if y ≤ x then ev 31 133 ls st σ else ev 31 31 ls st σ := e_ic_ge k31_28
theorem k31_31 : cod 31 31 = some (.aload_n 1, 1, 0, 0, 0, 0) := rfl
theorem e31_31 (a0 : Option Value) (x : Nat) (ls : mL) (st : List Value) (σ : mS) : ev 31 31 (a0 :: some (.ref x) :: ls) st σ = ev 31 32 (a0 :: some (.ref x) :: ls) (.ref x :: st) σ := e_aload1 k31_31 rfl
theorem k31_32 : cod 31 32 = some (.iconst 1, 1, 0, 0, 0, 0) := rfl
theorem e31_32 (ls : mL) (st : List Value) (σ : mS) : ev 31 32 ls st σ = ev 31 33 ls (.int 1 :: st) σ := e_iconst 1 k31_32 (by decide)
theorem k31_33 : cod 31 33 = some (.aload_n 1, 1, 0, 0, 0, 0) := rfl
theorem e31_33 (a0 : Option Value) (x : Nat) (ls : mL) (st : List Value) (σ : mS) : ev 31 33 (a0 :: some (.ref x) :: ls) st σ = ev 31 34 (a0 :: some (.ref x) :: ls) (.ref x :: st) σ := e_aload1 k31_33 rfl
theorem k31_34 : cod 31 34 = some (.getfield 36, 3, 6, 3, 1, 3) := rfl
theorem e31_34 (t : Nat) (ls : mL) (st : List Value) (σ : mS) : ev 31 34 ls (.ref t :: st) σ = gfK (σ.1 t) 6 3 (fun v => ev 31 37 ls (v :: st) σ) := e_getf k31_34
theorem k31_37 : cod 31 37 = some (.iload_n 2, 1, 0, 0, 0, 0) := rfl
theorem e31_37 (a0 a1 : Option Value) (x : Int32) (ls : mL) (st : List Value) (σ : mS) : ev 31 37 (a0 :: a1 :: some (.int x) :: ls) st σ = ev 31 38 (a0 :: a1 :: some (.int x) :: ls) (.int x :: st) σ := e_iload1 k31_37 rfl
theorem k31_38 : cod 31 38 = some (.iaload, 1, 0, 0, 0, 0) := rfl
theorem e31_38 (j : Int32) (t : Nat) (ls : mL) (st : List Value) (σ : mS) : ev 31 38 ls (.int j :: .ref t :: st) σ = alK (σ.1 t) 0 j (fun v => ev 31 39 ls (.int v :: st) σ) := e_iald k31_38
theorem k31_39 : cod 31 39 = some (.ishl, 1, 0, 0, 0, 0) := rfl
theorem e31_39 (x y : Int32) (ls : mL) (st : List Value) (σ : mS) : ev 31 39 ls (.int y :: .int x :: st) σ = ev 31 40 ls (.int (x <<< (y &&& 31)) :: st) σ := e_ishl k31_39
theorem k31_40 : cod 31 40 = some (.iload_n 3, 1, 0, 0, 0, 0) := rfl
theorem e31_40 (a0 a1 a2 : Option Value) (x : Int32) (ls : mL) (st : List Value) (σ : mS) : ev 31 40 (a0 :: a1 :: a2 :: some (.int x) :: ls) st σ = ev 31 41 (a0 :: a1 :: a2 :: some (.int x) :: ls) (.int x :: st) σ := e_iload1 k31_40 rfl
theorem k31_41 : cod 31 41 = some (.invokevirtual 44, 3, 68, 2, 0, 6) := rfl
theorem e31_41 (t : Nat) (x0 : Int32) (x1 : Int32) (ls : mL) (st : List Value) (σ : mS) (hm : mCat st ≤ 8) : ev 31 41 ls (.int x1 :: .int x0 :: .ref t :: st) σ = isC (σ.1 t) 6 ((evM 68 [.ref t, .int x0, .int x1] σ).bind fun z => ev 31 44 ls (z.1.toList ++ st) z.2) := e_callVK k31_41 (by decide) rfl ⟨hm, Nat.le_of_ble_eq_true rfl⟩
theorem k31_44 : cod 31 44 = some (.istore 4, 2, 0, 0, 0, 0) := rfl
theorem e31_44i (a0 a1 a2 : Option Value) (y : Int32) (o : Option Value) (x : Int32) (ls : mL) (st : List Value) (σ : mS) : ev 31 44 (a0 :: a1 :: a2 :: some (.int y) :: o :: ls) (.int x :: st) σ = ev 31 46 (a0 :: a1 :: a2 :: some (.int y) :: some (.int x) :: ls) st σ := e_istore0 k31_44 (Nat.le_add_left 5 ls.length)
theorem e31_44n (a0 a1 a2 : Option Value) (o : Option Value) (x : Int32) (ls : mL) (st : List Value) (σ : mS) : ev 31 44 (a0 :: a1 :: a2 :: none :: o :: ls) (.int x :: st) σ = ev 31 46 (a0 :: a1 :: a2 :: none :: some (.int x) :: ls) st σ := e_istore0 k31_44 (Nat.le_add_left 5 ls.length)
theorem e31_44r (a0 a1 a2 : Option Value) (y : Nat) (o : Option Value) (x : Int32) (ls : mL) (st : List Value) (σ : mS) : ev 31 44 (a0 :: a1 :: a2 :: some (.ref y) :: o :: ls) (.int x :: st) σ = ev 31 46 (a0 :: a1 :: a2 :: some (.ref y) :: some (.int x) :: ls) st σ := e_istore0 k31_44 (Nat.le_add_left 5 ls.length)
theorem k31_46 : cod 31 46 = some (.iconst 0, 1, 0, 0, 0, 0) := rfl
theorem e31_46 (ls : mL) (st : List Value) (σ : mS) : ev 31 46 ls st σ = ev 31 47 ls (.int 0 :: st) σ := e_iconst 0 k31_46 (by decide)
theorem k31_47 : cod 31 47 = some (.istore 5, 2, 0, 0, 0, 0) := rfl
theorem e31_47i (a0 a1 a2 a3 : Option Value) (y : Int32) (o : Option Value) (x : Int32) (ls : mL) (st : List Value) (σ : mS) : ev 31 47 (a0 :: a1 :: a2 :: a3 :: some (.int y) :: o :: ls) (.int x :: st) σ = ev 31 49 (a0 :: a1 :: a2 :: a3 :: some (.int y) :: some (.int x) :: ls) st σ := e_istore0 k31_47 (Nat.le_add_left 6 ls.length)
theorem e31_47n (a0 a1 a2 a3 : Option Value) (o : Option Value) (x : Int32) (ls : mL) (st : List Value) (σ : mS) : ev 31 47 (a0 :: a1 :: a2 :: a3 :: none :: o :: ls) (.int x :: st) σ = ev 31 49 (a0 :: a1 :: a2 :: a3 :: none :: some (.int x) :: ls) st σ := e_istore0 k31_47 (Nat.le_add_left 6 ls.length)
theorem e31_47r (a0 a1 a2 a3 : Option Value) (y : Nat) (o : Option Value) (x : Int32) (ls : mL) (st : List Value) (σ : mS) : ev 31 47 (a0 :: a1 :: a2 :: a3 :: some (.ref y) :: o :: ls) (.int x :: st) σ = ev 31 49 (a0 :: a1 :: a2 :: a3 :: some (.ref y) :: some (.int x) :: ls) st σ := e_istore0 k31_47 (Nat.le_add_left 6 ls.length)
theorem k31_49 : cod 31 49 = some (.iload 5, 2, 0, 0, 0, 0) := rfl
theorem e31_49 (a0 a1 a2 a3 a4 : Option Value) (x : Int32) (ls : mL) (st : List Value) (σ : mS) : ev 31 49 (a0 :: a1 :: a2 :: a3 :: a4 :: some (.int x) :: ls) st σ = ev 31 51 (a0 :: a1 :: a2 :: a3 :: a4 :: some (.int x) :: ls) (.int x :: st) σ := e_iload0 k31_49 rfl
theorem k31_51 : cod 31 51 = some (.bipush (8), 2, 0, 0, 0, 0) := rfl
theorem e31_51 (ls : mL) (st : List Value) (σ : mS) : ev 31 51 ls st σ = ev 31 53 ls (.int 8 :: st) σ := e_bipush 8 k31_51 (by decide)
theorem k31_53 : cod 31 53 = some (.if_icmp .ge (74), 3, 127, 0, 0, 0) := rfl
theorem e31_53 (x y : Int32) (ls : mL) (st : List Value) (σ : mS) : ev 31 53 ls (.int y :: .int x :: st) σ = if y ≤ x then ev 31 127 ls st σ else ev 31 56 ls st σ := e_ic_ge k31_53
theorem k31_56 : cod 31 56 = some (.aload_n 1, 1, 0, 0, 0, 0) := rfl
theorem e31_56 (a0 : Option Value) (x : Nat) (ls : mL) (st : List Value) (σ : mS) : ev 31 56 (a0 :: some (.ref x) :: ls) st σ = ev 31 57 (a0 :: some (.ref x) :: ls) (.ref x :: st) σ := e_aload1 k31_56 rfl
theorem k31_57 : cod 31 57 = some (.iload 4, 2, 0, 0, 0, 0) := rfl
theorem e31_57 (a0 a1 a2 a3 : Option Value) (x : Int32) (ls : mL) (st : List Value) (σ : mS) : ev 31 57 (a0 :: a1 :: a2 :: a3 :: some (.int x) :: ls) st σ = ev 31 59 (a0 :: a1 :: a2 :: a3 :: some (.int x) :: ls) (.int x :: st) σ := e_iload0 k31_57 rfl
theorem k31_59 : cod 31 59 = some (.iload 5, 2, 0, 0, 0, 0) := rfl
theorem e31_59 (a0 a1 a2 a3 a4 : Option Value) (x : Int32) (ls : mL) (st : List Value) (σ : mS) : ev 31 59 (a0 :: a1 :: a2 :: a3 :: a4 :: some (.int x) :: ls) st σ = ev 31 61 (a0 :: a1 :: a2 :: a3 :: a4 :: some (.int x) :: ls) (.int x :: st) σ := e_iload0 k31_59 rfl
theorem k31_61 : cod 31 61 = some (.invokevirtual 44, 3, 68, 2, 0, 6) := rfl
theorem e31_61 (t : Nat) (x0 : Int32) (x1 : Int32) (ls : mL) (st : List Value) (σ : mS) (hm : mCat st ≤ 8) : ev 31 61 ls (.int x1 :: .int x0 :: .ref t :: st) σ = isC (σ.1 t) 6 ((evM 68 [.ref t, .int x0, .int x1] σ).bind fun z => ev 31 64 ls (z.1.toList ++ st) z.2) := e_callVK k31_61 (by decide) rfl ⟨hm, Nat.le_of_ble_eq_true rfl⟩
theorem k31_64 : cod 31 64 = some (.istore 6, 2, 0, 0, 0, 0) := rfl
theorem e31_64i (a0 a1 a2 a3 a4 : Option Value) (y : Int32) (o : Option Value) (x : Int32) (ls : mL) (st : List Value) (σ : mS) : ev 31 64 (a0 :: a1 :: a2 :: a3 :: a4 :: some (.int y) :: o :: ls) (.int x :: st) σ = ev 31 66 (a0 :: a1 :: a2 :: a3 :: a4 :: some (.int y) :: some (.int x) :: ls) st σ := e_istore0 k31_64 (Nat.le_add_left 7 ls.length)
theorem e31_64n (a0 a1 a2 a3 a4 : Option Value) (o : Option Value) (x : Int32) (ls : mL) (st : List Value) (σ : mS) : ev 31 64 (a0 :: a1 :: a2 :: a3 :: a4 :: none :: o :: ls) (.int x :: st) σ = ev 31 66 (a0 :: a1 :: a2 :: a3 :: a4 :: none :: some (.int x) :: ls) st σ := e_istore0 k31_64 (Nat.le_add_left 7 ls.length)
theorem e31_64r (a0 a1 a2 a3 a4 : Option Value) (y : Nat) (o : Option Value) (x : Int32) (ls : mL) (st : List Value) (σ : mS) : ev 31 64 (a0 :: a1 :: a2 :: a3 :: a4 :: some (.ref y) :: o :: ls) (.int x :: st) σ = ev 31 66 (a0 :: a1 :: a2 :: a3 :: a4 :: some (.ref y) :: some (.int x) :: ls) st σ := e_istore0 k31_64 (Nat.le_add_left 7 ls.length)
theorem k31_66 : cod 31 66 = some (.iconst 0, 1, 0, 0, 0, 0) := rfl
theorem e31_66 (ls : mL) (st : List Value) (σ : mS) : ev 31 66 ls st σ = ev 31 67 ls (.int 0 :: st) σ := e_iconst 0 k31_66 (by decide)
theorem k31_67 : cod 31 67 = some (.istore 7, 2, 0, 0, 0, 0) := rfl
theorem e31_67i (a0 a1 a2 a3 a4 a5 : Option Value) (y : Int32) (o : Option Value) (x : Int32) (ls : mL) (st : List Value) (σ : mS) : ev 31 67 (a0 :: a1 :: a2 :: a3 :: a4 :: a5 :: some (.int y) :: o :: ls) (.int x :: st) σ = ev 31 69 (a0 :: a1 :: a2 :: a3 :: a4 :: a5 :: some (.int y) :: some (.int x) :: ls) st σ := e_istore0 k31_67 (Nat.le_add_left 8 ls.length)
theorem e31_67n (a0 a1 a2 a3 a4 a5 : Option Value) (o : Option Value) (x : Int32) (ls : mL) (st : List Value) (σ : mS) : ev 31 67 (a0 :: a1 :: a2 :: a3 :: a4 :: a5 :: none :: o :: ls) (.int x :: st) σ = ev 31 69 (a0 :: a1 :: a2 :: a3 :: a4 :: a5 :: none :: some (.int x) :: ls) st σ := e_istore0 k31_67 (Nat.le_add_left 8 ls.length)
theorem e31_67r (a0 a1 a2 a3 a4 a5 : Option Value) (y : Nat) (o : Option Value) (x : Int32) (ls : mL) (st : List Value) (σ : mS) : ev 31 67 (a0 :: a1 :: a2 :: a3 :: a4 :: a5 :: some (.ref y) :: o :: ls) (.int x :: st) σ = ev 31 69 (a0 :: a1 :: a2 :: a3 :: a4 :: a5 :: some (.ref y) :: some (.int x) :: ls) st σ := e_istore0 k31_67 (Nat.le_add_left 8 ls.length)
theorem k31_69 : cod 31 69 = some (.iload 7, 2, 0, 0, 0, 0) := rfl
theorem e31_69 (a0 a1 a2 a3 a4 a5 a6 : Option Value) (x : Int32) (ls : mL) (st : List Value) (σ : mS) : ev 31 69 (a0 :: a1 :: a2 :: a3 :: a4 :: a5 :: a6 :: some (.int x) :: ls) st σ = ev 31 71 (a0 :: a1 :: a2 :: a3 :: a4 :: a5 :: a6 :: some (.int x) :: ls) (.int x :: st) σ := e_iload0 k31_69 rfl
theorem k31_71 : cod 31 71 = some (.bipush (8), 2, 0, 0, 0, 0) := rfl
theorem e31_71 (ls : mL) (st : List Value) (σ : mS) : ev 31 71 ls st σ = ev 31 73 ls (.int 8 :: st) σ := e_bipush 8 k31_71 (by decide)
theorem k31_73 : cod 31 73 = some (.if_icmp .ge (48), 3, 121, 0, 0, 0) := rfl
theorem e31_73 (x y : Int32) (ls : mL) (st : List Value) (σ : mS) : ev 31 73 ls (.int y :: .int x :: st) σ = if y ≤ x then ev 31 121 ls st σ else ev 31 76 ls st σ := e_ic_ge k31_73
theorem k31_76 : cod 31 76 = some (.aload_n 1, 1, 0, 0, 0, 0) := rfl
theorem e31_76 (a0 : Option Value) (x : Nat) (ls : mL) (st : List Value) (σ : mS) : ev 31 76 (a0 :: some (.ref x) :: ls) st σ = ev 31 77 (a0 :: some (.ref x) :: ls) (.ref x :: st) σ := e_aload1 k31_76 rfl
theorem k31_77 : cod 31 77 = some (.iload 6, 2, 0, 0, 0, 0) := rfl
theorem e31_77 (a0 a1 a2 a3 a4 a5 : Option Value) (x : Int32) (ls : mL) (st : List Value) (σ : mS) : ev 31 77 (a0 :: a1 :: a2 :: a3 :: a4 :: a5 :: some (.int x) :: ls) st σ = ev 31 79 (a0 :: a1 :: a2 :: a3 :: a4 :: a5 :: some (.int x) :: ls) (.int x :: st) σ := e_iload0 k31_77 rfl
theorem k31_79 : cod 31 79 = some (.iload 7, 2, 0, 0, 0, 0) := rfl
theorem e31_79 (a0 a1 a2 a3 a4 a5 a6 : Option Value) (x : Int32) (ls : mL) (st : List Value) (σ : mS) : ev 31 79 (a0 :: a1 :: a2 :: a3 :: a4 :: a5 :: a6 :: some (.int x) :: ls) st σ = ev 31 81 (a0 :: a1 :: a2 :: a3 :: a4 :: a5 :: a6 :: some (.int x) :: ls) (.int x :: st) σ := e_iload0 k31_79 rfl
theorem k31_81 : cod 31 81 = some (.invokevirtual 44, 3, 68, 2, 0, 6) := rfl
theorem e31_81 (t : Nat) (x0 : Int32) (x1 : Int32) (ls : mL) (st : List Value) (σ : mS) (hm : mCat st ≤ 8) : ev 31 81 ls (.int x1 :: .int x0 :: .ref t :: st) σ = isC (σ.1 t) 6 ((evM 68 [.ref t, .int x0, .int x1] σ).bind fun z => ev 31 84 ls (z.1.toList ++ st) z.2) := e_callVK k31_81 (by decide) rfl ⟨hm, Nat.le_of_ble_eq_true rfl⟩
theorem k31_84 : cod 31 84 = some (.aload_n 1, 1, 0, 0, 0, 0) := rfl
theorem e31_84 (a0 : Option Value) (x : Nat) (ls : mL) (st : List Value) (σ : mS) : ev 31 84 (a0 :: some (.ref x) :: ls) st σ = ev 31 85 (a0 :: some (.ref x) :: ls) (.ref x :: st) σ := e_aload1 k31_84 rfl
theorem k31_85 : cod 31 85 = some (.getfield 48, 3, 6, 4, 1, 3) := rfl
theorem e31_85 (t : Nat) (ls : mL) (st : List Value) (σ : mS) : ev 31 85 ls (.ref t :: st) σ = gfK (σ.1 t) 6 4 (fun v => ev 31 88 ls (v :: st) σ) := e_getf k31_85
theorem k31_88 : cod 31 88 = some (.iload_n 2, 1, 0, 0, 0, 0) := rfl
theorem e31_88 (a0 a1 : Option Value) (x : Int32) (ls : mL) (st : List Value) (σ : mS) : ev 31 88 (a0 :: a1 :: some (.int x) :: ls) st σ = ev 31 89 (a0 :: a1 :: some (.int x) :: ls) (.int x :: st) σ := e_iload1 k31_88 rfl
theorem k31_89 : cod 31 89 = some (.iaload, 1, 0, 0, 0, 0) := rfl
theorem e31_89 (j : Int32) (t : Nat) (ls : mL) (st : List Value) (σ : mS) : ev 31 89 ls (.int j :: .ref t :: st) σ = alK (σ.1 t) 0 j (fun v => ev 31 90 ls (.int v :: st) σ) := e_iald k31_89
theorem k31_90 : cod 31 90 = some (.invokestatic 51, 3, 84, 2, 1, 0) := rfl
theorem e31_90 (x0 : Int32) (x1 : Int32) (ls : mL) (st : List Value) (σ : mS) (hm : mCat st ≤ 8) : ev 31 90 ls (.int x1 :: .int x0 :: st) σ = (evM 84 [.int x0, .int x1] σ).bind fun z => ev 31 93 ls (z.1.toList ++ st) z.2 := e_callS k31_90 (by decide) rfl ⟨hm, Nat.le_of_ble_eq_true rfl⟩
theorem k31_93 : cod 31 93 = some (.ifCond .eq (22), 3, 115, 0, 0, 0) := rfl
theorem e31_93 (x : Int32) (ls : mL) (st : List Value) (σ : mS) : ev 31 93 ls (.int x :: st) σ = if x = 0 then ev 31 115 ls st σ else ev 31 96 ls st σ := e_if_eq k31_93
theorem k31_96 : cod 31 96 = some (.aload_n 0, 1, 0, 0, 0, 0) := rfl
theorem e31_96 (x : Nat) (ls : mL) (st : List Value) (σ : mS) : ev 31 96 (some (.ref x) :: ls) st σ = ev 31 97 (some (.ref x) :: ls) (.ref x :: st) σ := e_aload1 k31_96 rfl
theorem k31_97 : cod 31 97 = some (.iload_n 2, 1, 0, 0, 0, 0) := rfl
theorem e31_97 (a0 a1 : Option Value) (x : Int32) (ls : mL) (st : List Value) (σ : mS) : ev 31 97 (a0 :: a1 :: some (.int x) :: ls) st σ = ev 31 98 (a0 :: a1 :: some (.int x) :: ls) (.int x :: st) σ := e_iload1 k31_97 rfl
theorem k31_98 : cod 31 98 = some (.iconst 3, 1, 0, 0, 0, 0) := rfl
theorem e31_98 (ls : mL) (st : List Value) (σ : mS) : ev 31 98 ls st σ = ev 31 99 ls (.int 3 :: st) σ := e_iconst 3 k31_98 (by decide)
theorem k31_99 : cod 31 99 = some (.iload_n 3, 1, 0, 0, 0, 0) := rfl
theorem e31_99 (a0 a1 a2 : Option Value) (x : Int32) (ls : mL) (st : List Value) (σ : mS) : ev 31 99 (a0 :: a1 :: a2 :: some (.int x) :: ls) st σ = ev 31 100 (a0 :: a1 :: a2 :: some (.int x) :: ls) (.int x :: st) σ := e_iload1 k31_99 rfl
theorem k31_100 : cod 31 100 = some (.bipush (8), 2, 0, 0, 0, 0) := rfl
theorem e31_100 (ls : mL) (st : List Value) (σ : mS) : ev 31 100 ls st σ = ev 31 102 ls (.int 8 :: st) σ := e_bipush 8 k31_100 (by decide)
theorem k31_102 : cod 31 102 = some (.iload 5, 2, 0, 0, 0, 0) := rfl
theorem e31_102 (a0 a1 a2 a3 a4 : Option Value) (x : Int32) (ls : mL) (st : List Value) (σ : mS) : ev 31 102 (a0 :: a1 :: a2 :: a3 :: a4 :: some (.int x) :: ls) st σ = ev 31 104 (a0 :: a1 :: a2 :: a3 :: a4 :: some (.int x) :: ls) (.int x :: st) σ := e_iload0 k31_102 rfl
theorem k31_104 : cod 31 104 = some (.imul, 1, 0, 0, 0, 0) := rfl
theorem e31_104 (x y : Int32) (ls : mL) (st : List Value) (σ : mS) : ev 31 104 ls (.int y :: .int x :: st) σ = ev 31 105 ls (.int (x * y) :: st) σ := e_imul k31_104
theorem k31_105 : cod 31 105 = some (.iadd, 1, 0, 0, 0, 0) := rfl
theorem e31_105 (x y : Int32) (ls : mL) (st : List Value) (σ : mS) : ev 31 105 ls (.int y :: .int x :: st) σ = ev 31 106 ls (.int (x + y) :: st) σ := e_iadd k31_105
theorem k31_106 : cod 31 106 = some (.bipush (64), 2, 0, 0, 0, 0) := rfl
theorem e31_106 (ls : mL) (st : List Value) (σ : mS) : ev 31 106 ls st σ = ev 31 108 ls (.int 64 :: st) σ := e_bipush 64 k31_106 (by decide)
theorem k31_108 : cod 31 108 = some (.iload 7, 2, 0, 0, 0, 0) := rfl
theorem e31_108 (a0 a1 a2 a3 a4 a5 a6 : Option Value) (x : Int32) (ls : mL) (st : List Value) (σ : mS) : ev 31 108 (a0 :: a1 :: a2 :: a3 :: a4 :: a5 :: a6 :: some (.int x) :: ls) st σ = ev 31 110 (a0 :: a1 :: a2 :: a3 :: a4 :: a5 :: a6 :: some (.int x) :: ls) (.int x :: st) σ := e_iload0 k31_108 rfl
theorem k31_110 : cod 31 110 = some (.imul, 1, 0, 0, 0, 0) := rfl
theorem e31_110 (x y : Int32) (ls : mL) (st : List Value) (σ : mS) : ev 31 110 ls (.int y :: .int x :: st) σ = ev 31 111 ls (.int (x * y) :: st) σ := e_imul k31_110
theorem k31_111 : cod 31 111 = some (.iadd, 1, 0, 0, 0, 0) := rfl
theorem e31_111 (x y : Int32) (ls : mL) (st : List Value) (σ : mS) : ev 31 111 ls (.int y :: .int x :: st) σ = ev 31 112 ls (.int (x + y) :: st) σ := e_iadd k31_111
theorem k31_112 : cod 31 112 = some (.invokevirtual 55, 3, 30, 3, 0, 2) := rfl
theorem e31_112 (t : Nat) (x0 : Int32) (x1 : Int32) (x2 : Int32) (ls : mL) (st : List Value) (σ : mS) (hm : mCat st ≤ 8) : ev 31 112 ls (.int x2 :: .int x1 :: .int x0 :: .ref t :: st) σ = isC (σ.1 t) 2 ((evM 30 [.ref t, .int x0, .int x1, .int x2] σ).bind fun z => ev 31 115 ls (z.1.toList ++ st) z.2) := e_callVK k31_112 (by decide) rfl ⟨hm, Nat.le_of_ble_eq_true rfl⟩
theorem k31_115 : cod 31 115 = some (.iinc 7 (1), 3, 0, 0, 0, 0) := rfl
theorem e31_115i (a0 a1 a2 a3 a4 a5 : Option Value) (y : Int32) (x : Int32) (ls : mL) (st : List Value) (σ : mS) : ev 31 115 (a0 :: a1 :: a2 :: a3 :: a4 :: a5 :: some (.int y) :: some (.int x) :: ls) st σ = ev 31 118 (a0 :: a1 :: a2 :: a3 :: a4 :: a5 :: some (.int y) :: some (.int (x + 1)) :: ls) st σ := e_iinc 1 k31_115 (by decide) rfl
theorem e31_115n (a0 a1 a2 a3 a4 a5 : Option Value) (x : Int32) (ls : mL) (st : List Value) (σ : mS) : ev 31 115 (a0 :: a1 :: a2 :: a3 :: a4 :: a5 :: none :: some (.int x) :: ls) st σ = ev 31 118 (a0 :: a1 :: a2 :: a3 :: a4 :: a5 :: none :: some (.int (x + 1)) :: ls) st σ := e_iinc 1 k31_115 (by decide) rfl
theorem e31_115r (a0 a1 a2 a3 a4 a5 : Option Value) (y : Nat) (x : Int32) (ls : mL) (st : List Value) (σ : mS) : ev 31 115 (a0 :: a1 :: a2 :: a3 :: a4 :: a5 :: some (.ref y) :: some (.int x) :: ls) st σ = ev 31 118 (a0 :: a1 :: a2 :: a3 :: a4 :: a5 :: some (.ref y) :: some (.int (x + 1)) :: ls) st σ := e_iinc 1 k31_115 (by decide) rfl
theorem k31_118 : cod 31 118 = some (.goto (-49), 3, 69, 0, 0, 0) := rfl
theorem e31_118 (ls : mL) (st : List Value) (σ : mS) : ev 31 118 ls st σ = ev 31 69 ls st σ := e_goto k31_118
theorem k31_121 : cod 31 121 = some (.iinc 5 (1), 3, 0, 0, 0, 0) := rfl
theorem e31_121i (a0 a1 a2 a3 : Option Value) (y : Int32) (x : Int32) (ls : mL) (st : List Value) (σ : mS) : ev 31 121 (a0 :: a1 :: a2 :: a3 :: some (.int y) :: some (.int x) :: ls) st σ = ev 31 124 (a0 :: a1 :: a2 :: a3 :: some (.int y) :: some (.int (x + 1)) :: ls) st σ := e_iinc 1 k31_121 (by decide) rfl
theorem e31_121n (a0 a1 a2 a3 : Option Value) (x : Int32) (ls : mL) (st : List Value) (σ : mS) : ev 31 121 (a0 :: a1 :: a2 :: a3 :: none :: some (.int x) :: ls) st σ = ev 31 124 (a0 :: a1 :: a2 :: a3 :: none :: some (.int (x + 1)) :: ls) st σ := e_iinc 1 k31_121 (by decide) rfl
theorem e31_121r (a0 a1 a2 a3 : Option Value) (y : Nat) (x : Int32) (ls : mL) (st : List Value) (σ : mS) : ev 31 121 (a0 :: a1 :: a2 :: a3 :: some (.ref y) :: some (.int x) :: ls) st σ = ev 31 124 (a0 :: a1 :: a2 :: a3 :: some (.ref y) :: some (.int (x + 1)) :: ls) st σ := e_iinc 1 k31_121 (by decide) rfl
theorem k31_124 : cod 31 124 = some (.goto (-75), 3, 49, 0, 0, 0) := rfl
theorem e31_124 (ls : mL) (st : List Value) (σ : mS) : ev 31 124 ls st σ = ev 31 49 ls st σ := e_goto k31_124
theorem k31_127 : cod 31 127 = some (.iinc 3 (1), 3, 0, 0, 0, 0) := rfl
theorem e31_127i (a0 a1 : Option Value) (y : Int32) (x : Int32) (ls : mL) (st : List Value) (σ : mS) : ev 31 127 (a0 :: a1 :: some (.int y) :: some (.int x) :: ls) st σ = ev 31 130 (a0 :: a1 :: some (.int y) :: some (.int (x + 1)) :: ls) st σ := e_iinc 1 k31_127 (by decide) rfl
theorem e31_127n (a0 a1 : Option Value) (x : Int32) (ls : mL) (st : List Value) (σ : mS) : ev 31 127 (a0 :: a1 :: none :: some (.int x) :: ls) st σ = ev 31 130 (a0 :: a1 :: none :: some (.int (x + 1)) :: ls) st σ := e_iinc 1 k31_127 (by decide) rfl
theorem e31_127r (a0 a1 : Option Value) (y : Nat) (x : Int32) (ls : mL) (st : List Value) (σ : mS) : ev 31 127 (a0 :: a1 :: some (.ref y) :: some (.int x) :: ls) st σ = ev 31 130 (a0 :: a1 :: some (.ref y) :: some (.int (x + 1)) :: ls) st σ := e_iinc 1 k31_127 (by decide) rfl
theorem k31_130 : cod 31 130 = some (.goto (-105), 3, 25, 0, 0, 0) := rfl
theorem e31_130 (ls : mL) (st : List Value) (σ : mS) : ev 31 130 ls st σ = ev 31 25 ls st σ := e_goto k31_130
theorem k31_133 : cod 31 133 = some (.return_, 1, 0, 0, 0, 0) := rfl
theorem e31_133 (ls : mL) (σ : mS) : ev 31 133 ls [] σ = some (none, σ) := e_vret k31_133 rfl
theorem m31 (t : Nat) (x0 : Nat) (x1 : Int32) (σ : mS) : evM 31 [.ref t, .ref x0, .int x1] σ = ev 31 0 [some (.ref t), some (.ref x0), some (.int x1), none, none, none, none, none] [] σ := rfl
theorem k32_0 : cod 32 0 = some (.aload_n 0, 1, 0, 0, 0, 0) := rfl
theorem e32_0 (x : Nat) (ls : mL) (st : List Value) (σ : mS) : ev 32 0 (some (.ref x) :: ls) st σ = ev 32 1 (some (.ref x) :: ls) (.ref x :: st) σ := e_aload1 k32_0 rfl
theorem k32_1 : cod 32 1 = some (.invokespecial 3, 3, 3, 0, 9, 2) := rfl
theorem e32_1 (x : Nat) (ls : mL) (st : List Value) (σ : mS) (hz : mCat st ≤ 8) : ev 32 1 ls (.ref x :: st) σ = ev 32 4 ls st σ := e_objInit k32_1 hz
theorem k32_4 : cod 32 4 = some (.aload_n 0, 1, 0, 0, 0, 0) := rfl
theorem e32_4 (x : Nat) (ls : mL) (st : List Value) (σ : mS) : ev 32 4 (some (.ref x) :: ls) st σ = ev 32 5 (some (.ref x) :: ls) (.ref x :: st) σ := e_aload1 k32_4 rfl
theorem k32_5 : cod 32 5 = some (.iload_n 1, 1, 0, 0, 0, 0) := rfl
theorem e32_5 (a0 : Option Value) (x : Int32) (ls : mL) (st : List Value) (σ : mS) : ev 32 5 (a0 :: some (.int x) :: ls) st σ = ev 32 6 (a0 :: some (.int x) :: ls) (.int x :: st) σ := e_iload1 k32_5 rfl
theorem k32_6 : cod 32 6 = some (.iconst 0, 1, 0, 0, 0, 0) := rfl
theorem e32_6 (ls : mL) (st : List Value) (σ : mS) : ev 32 6 ls st σ = ev 32 7 ls (.int 0 :: st) σ := e_iconst 0 k32_6 (by decide)
theorem k32_7 : cod 32 7 = some (.invokestatic 9, 3, 0, 0, 4, 1) := rfl
theorem e32_7 (x y : Int32) (ls : mL) (st : List Value) (σ : mS) (hz : mCat st ≤ 8) : ev 32 7 ls (.int y :: .int x :: st) σ = ev 32 10 ls (.int (if x < y then y else x) :: st) σ := e_max k32_7 hz
theorem k32_10 : cod 32 10 = some (.putfield 15, 3, 3, 0, 2, 0) := rfl
theorem e32_10 (x : Int32) (t : Nat) (ls : mL) (st : List Value) (σ : mS) : ev 32 10 ls (.int x :: .ref t :: st) σ = pfK (σ.1 t) 3 0 (.int x) (fun e => ev 32 13 ls st (mset σ t e)) := e_putI k32_10
theorem k32_13 : cod 32 13 = some (.aload_n 0, 1, 0, 0, 0, 0) := rfl
theorem e32_13 (x : Nat) (ls : mL) (st : List Value) (σ : mS) : ev 32 13 (some (.ref x) :: ls) st σ = ev 32 14 (some (.ref x) :: ls) (.ref x :: st) σ := e_aload1 k32_13 rfl
theorem k32_14 : cod 32 14 = some (.iload_n 2, 1, 0, 0, 0, 0) := rfl
theorem e32_14 (a0 a1 : Option Value) (x : Int32) (ls : mL) (st : List Value) (σ : mS) : ev 32 14 (a0 :: a1 :: some (.int x) :: ls) st σ = ev 32 15 (a0 :: a1 :: some (.int x) :: ls) (.int x :: st) σ := e_iload1 k32_14 rfl
theorem k32_15 : cod 32 15 = some (.iconst 0, 1, 0, 0, 0, 0) := rfl
theorem e32_15 (ls : mL) (st : List Value) (σ : mS) : ev 32 15 ls st σ = ev 32 16 ls (.int 0 :: st) σ := e_iconst 0 k32_15 (by decide)
theorem k32_16 : cod 32 16 = some (.invokestatic 9, 3, 0, 0, 4, 1) := rfl
theorem e32_16 (x y : Int32) (ls : mL) (st : List Value) (σ : mS) (hz : mCat st ≤ 8) : ev 32 16 ls (.int y :: .int x :: st) σ = ev 32 19 ls (.int (if x < y then y else x) :: st) σ := e_max k32_16 hz
theorem k32_19 : cod 32 19 = some (.putfield 21, 3, 3, 1, 2, 0) := rfl
theorem e32_19 (x : Int32) (t : Nat) (ls : mL) (st : List Value) (σ : mS) : ev 32 19 ls (.int x :: .ref t :: st) σ = pfK (σ.1 t) 3 1 (.int x) (fun e => ev 32 22 ls st (mset σ t e)) := e_putI k32_19
theorem k32_22 : cod 32 22 = some (.aload_n 0, 1, 0, 0, 0, 0) := rfl
theorem e32_22 (x : Nat) (ls : mL) (st : List Value) (σ : mS) : ev 32 22 (some (.ref x) :: ls) st σ = ev 32 23 (some (.ref x) :: ls) (.ref x :: st) σ := e_aload1 k32_22 rfl
theorem k32_23 : cod 32 23 = some (.iload_n 1, 1, 0, 0, 0, 0) := rfl
theorem e32_23 (a0 : Option Value) (x : Int32) (ls : mL) (st : List Value) (σ : mS) : ev 32 23 (a0 :: some (.int x) :: ls) st σ = ev 32 24 (a0 :: some (.int x) :: ls) (.int x :: st) σ := e_iload1 k32_23 rfl
theorem k32_24 : cod 32 24 = some (.iconst 0, 1, 0, 0, 0, 0) := rfl
theorem e32_24 (ls : mL) (st : List Value) (σ : mS) : ev 32 24 ls st σ = ev 32 25 ls (.int 0 :: st) σ := e_iconst 0 k32_24 (by decide)
theorem k32_25 : cod 32 25 = some (.invokestatic 9, 3, 0, 0, 4, 1) := rfl
theorem e32_25 (x y : Int32) (ls : mL) (st : List Value) (σ : mS) (hz : mCat st ≤ 8) : ev 32 25 ls (.int y :: .int x :: st) σ = ev 32 28 ls (.int (if x < y then y else x) :: st) σ := e_max k32_25 hz
theorem k32_28 : cod 32 28 = some (.iload_n 2, 1, 0, 0, 0, 0) := rfl
theorem e32_28 (a0 a1 : Option Value) (x : Int32) (ls : mL) (st : List Value) (σ : mS) : ev 32 28 (a0 :: a1 :: some (.int x) :: ls) st σ = ev 32 29 (a0 :: a1 :: some (.int x) :: ls) (.int x :: st) σ := e_iload1 k32_28 rfl
theorem k32_29 : cod 32 29 = some (.iconst 0, 1, 0, 0, 0, 0) := rfl
theorem e32_29 (ls : mL) (st : List Value) (σ : mS) : ev 32 29 ls st σ = ev 32 30 ls (.int 0 :: st) σ := e_iconst 0 k32_29 (by decide)
theorem k32_30 : cod 32 30 = some (.invokestatic 9, 3, 0, 0, 4, 1) := rfl
theorem e32_30 (x y : Int32) (ls : mL) (st : List Value) (σ : mS) (hz : mCat st ≤ 8) : ev 32 30 ls (.int y :: .int x :: st) σ = ev 32 33 ls (.int (if x < y then y else x) :: st) σ := e_max k32_30 hz
theorem k32_33 : cod 32 33 = some (.imul, 1, 0, 0, 0, 0) := rfl
theorem e32_33 (x y : Int32) (ls : mL) (st : List Value) (σ : mS) : ev 32 33 ls (.int y :: .int x :: st) σ = ev 32 34 ls (.int (x * y) :: st) σ := e_imul k32_33
theorem k32_34 : cod 32 34 = some (.newarray .int, 2, 0, 0, 0, 0) := rfl
theorem e32_34 (x : Int32) (ls : mL) (st : List Value) (σ : mS) (hx : ¬ (x < 0 ∨ 100000 < x.toNatClampNeg)) : ev 32 34 ls (.int x :: st) σ = ev 32 36 ls (.ref σ.2.1 :: st) (mnew σ (.inl (0, x.toNatClampNeg, fun _ => 0)) x.toNatClampNeg) := e_newa k32_34 hx
theorem k32_36 : cod 32 36 = some (.putfield 24, 3, 3, 2, 2, 3) := rfl
theorem e32_36 (x : Nat) (t : Nat) (ls : mL) (st : List Value) (σ : mS) : ev 32 36 ls (.ref x :: .ref t :: st) σ = pfK (σ.1 t) 3 2 (.ref x) (fun e => ev 32 39 ls st (mset σ t e)) := e_putR k32_36
theorem k32_39 : cod 32 39 = some (.return_, 1, 0, 0, 0, 0) := rfl
theorem e32_39 (ls : mL) (σ : mS) : ev 32 39 ls [] σ = some (none, σ) := e_vret k32_39 rfl
theorem m32 (t : Nat) (x0 : Int32) (x1 : Int32) (σ : mS) : evM 32 [.ref t, .int x0, .int x1] σ = ev 32 0 [some (.ref t), some (.int x0), some (.int x1)] [] σ := rfl
theorem k33_0 : cod 33 0 = some (.aload_n 0, 1, 0, 0, 0, 0) := rfl
theorem e33_0 (x : Nat) (ls : mL) (st : List Value) (σ : mS) : ev 33 0 (some (.ref x) :: ls) st σ = ev 33 1 (some (.ref x) :: ls) (.ref x :: st) σ := e_aload1 k33_0 rfl
theorem k33_1 : cod 33 1 = some (.invokevirtual 31, 3, 34, 0, 0, 3) := rfl
theorem e33_1 (t : Nat) (ls : mL) (st : List Value) (σ : mS) (hm : mCat st ≤ 8) : ev 33 1 ls (.ref t :: st) σ = isC (σ.1 t) 3 ((evM 34 [.ref t] σ).bind fun z => ev 33 4 ls (z.1.toList ++ st) z.2) := e_callVK k33_1 (by decide) rfl ⟨hm, Nat.le_of_ble_eq_true rfl⟩
theorem k33_4 : cod 33 4 = some (.ifCond .eq (6), 3, 10, 0, 0, 0) := rfl
theorem e33_4 (x : Int32) (ls : mL) (st : List Value) (σ : mS) : ev 33 4 ls (.int x :: st) σ = if x = 0 then ev 33 10 ls st σ else ev 33 7 ls st σ := e_if_eq k33_4
theorem k33_7 : cod 33 7 = some (.bipush (-9), 2, 0, 0, 0, 0) := rfl
theorem e33_7 (ls : mL) (st : List Value) (σ : mS) : ev 33 7 ls st σ = ev 33 9 ls (.int (-9) :: st) σ := e_bipush (-9) k33_7 (by decide)
theorem k33_9 : cod 33 9 = some (.ireturn, 1, 0, 0, 0, 0) := rfl
theorem e33_9 (x : Int32) (ls : mL) (σ : mS) : ev 33 9 ls [.int x] σ = some (some (.int x), σ) := e_iret k33_9 rfl
theorem k33_10 : cod 33 10 = some (.aload_n 0, 1, 0, 0, 0, 0) := rfl
theorem e33_10 (x : Nat) (ls : mL) (st : List Value) (σ : mS) : ev 33 10 (some (.ref x) :: ls) st σ = ev 33 11 (some (.ref x) :: ls) (.ref x :: st) σ := e_aload1 k33_10 rfl
theorem k33_11 : cod 33 11 = some (.getfield 28, 3, 3, 3, 0, 0) := rfl
theorem e33_11 (t : Nat) (ls : mL) (st : List Value) (σ : mS) : ev 33 11 ls (.ref t :: st) σ = gfK (σ.1 t) 3 3 (fun v => ev 33 14 ls (v :: st) σ) := e_getf k33_11
theorem k33_14 : cod 33 14 = some (.istore_n 1, 1, 0, 0, 0, 0) := rfl
theorem e33_14i (y : Int32) (o : Option Value) (x : Int32) (ls : mL) (st : List Value) (σ : mS) : ev 33 14 (some (.int y) :: o :: ls) (.int x :: st) σ = ev 33 15 (some (.int y) :: some (.int x) :: ls) st σ := e_istore1 k33_14 (Nat.le_add_left 2 ls.length)
theorem e33_14n (o : Option Value) (x : Int32) (ls : mL) (st : List Value) (σ : mS) : ev 33 14 (none :: o :: ls) (.int x :: st) σ = ev 33 15 (none :: some (.int x) :: ls) st σ := e_istore1 k33_14 (Nat.le_add_left 2 ls.length)
theorem e33_14r (y : Nat) (o : Option Value) (x : Int32) (ls : mL) (st : List Value) (σ : mS) : ev 33 14 (some (.ref y) :: o :: ls) (.int x :: st) σ = ev 33 15 (some (.ref y) :: some (.int x) :: ls) st σ := e_istore1 k33_14 (Nat.le_add_left 2 ls.length)
theorem k33_15 : cod 33 15 = some (.aload_n 0, 1, 0, 0, 0, 0) := rfl
theorem e33_15 (x : Nat) (ls : mL) (st : List Value) (σ : mS) : ev 33 15 (some (.ref x) :: ls) st σ = ev 33 16 (some (.ref x) :: ls) (.ref x :: st) σ := e_aload1 k33_15 rfl
theorem k33_16 : cod 33 16 = some (.dup, 1, 0, 0, 0, 0) := rfl
theorem e33_16i (x : Int32) (ls : mL) (st : List Value) (σ : mS) : ev 33 16 ls (.int x :: st) σ = ev 33 17 ls (.int x :: .int x :: st) σ := e_dupI k33_16
theorem e33_16r (x : Nat) (ls : mL) (st : List Value) (σ : mS) : ev 33 16 ls (.ref x :: st) σ = ev 33 17 ls (.ref x :: .ref x :: st) σ := e_dupR k33_16
theorem k33_17 : cod 33 17 = some (.getfield 28, 3, 3, 3, 0, 0) := rfl
theorem e33_17 (t : Nat) (ls : mL) (st : List Value) (σ : mS) : ev 33 17 ls (.ref t :: st) σ = gfK (σ.1 t) 3 3 (fun v => ev 33 20 ls (v :: st) σ) := e_getf k33_17
theorem k33_20 : cod 33 20 = some (.iconst 1, 1, 0, 0, 0, 0) := rfl
theorem e33_20 (ls : mL) (st : List Value) (σ : mS) : ev 33 20 ls st σ = ev 33 21 ls (.int 1 :: st) σ := e_iconst 1 k33_20 (by decide)
theorem k33_21 : cod 33 21 = some (.iadd, 1, 0, 0, 0, 0) := rfl
theorem e33_21 (x y : Int32) (ls : mL) (st : List Value) (σ : mS) : ev 33 21 ls (.int y :: .int x :: st) σ = ev 33 22 ls (.int (x + y) :: st) σ := e_iadd k33_21
theorem k33_22 : cod 33 22 = some (.putfield 28, 3, 3, 3, 0, 0) := rfl
theorem e33_22 (x : Int32) (t : Nat) (ls : mL) (st : List Value) (σ : mS) : ev 33 22 ls (.int x :: .ref t :: st) σ = pfK (σ.1 t) 3 3 (.int x) (fun e => ev 33 25 ls st (mset σ t e)) := e_putI k33_22
theorem k33_25 : cod 33 25 = some (.iconst 0, 1, 0, 0, 0, 0) := rfl
theorem e33_25 (ls : mL) (st : List Value) (σ : mS) : ev 33 25 ls st σ = ev 33 26 ls (.int 0 :: st) σ := e_iconst 0 k33_25 (by decide)
theorem k33_26 : cod 33 26 = some (.istore_n 2, 1, 0, 0, 0, 0) := rfl
theorem e33_26i (a0 : Option Value) (y : Int32) (o : Option Value) (x : Int32) (ls : mL) (st : List Value) (σ : mS) : ev 33 26 (a0 :: some (.int y) :: o :: ls) (.int x :: st) σ = ev 33 27 (a0 :: some (.int y) :: some (.int x) :: ls) st σ := e_istore1 k33_26 (Nat.le_add_left 3 ls.length)
theorem e33_26n (a0 : Option Value) (o : Option Value) (x : Int32) (ls : mL) (st : List Value) (σ : mS) : ev 33 26 (a0 :: none :: o :: ls) (.int x :: st) σ = ev 33 27 (a0 :: none :: some (.int x) :: ls) st σ := e_istore1 k33_26 (Nat.le_add_left 3 ls.length)
theorem e33_26r (a0 : Option Value) (y : Nat) (o : Option Value) (x : Int32) (ls : mL) (st : List Value) (σ : mS) : ev 33 26 (a0 :: some (.ref y) :: o :: ls) (.int x :: st) σ = ev 33 27 (a0 :: some (.ref y) :: some (.int x) :: ls) st σ := e_istore1 k33_26 (Nat.le_add_left 3 ls.length)
theorem k33_27 : cod 33 27 = some (.iload_n 2, 1, 0, 0, 0, 0) := rfl
theorem e33_27 (a0 a1 : Option Value) (x : Int32) (ls : mL) (st : List Value) (σ : mS) : ev 33 27 (a0 :: a1 :: some (.int x) :: ls) st σ = ev 33 28 (a0 :: a1 :: some (.int x) :: ls) (.int x :: st) σ := e_iload1 k33_27 rfl
theorem k33_28 : cod 33 28 = some (.aload_n 0, 1, 0, 0, 0, 0) := rfl
theorem e33_28 (x : Nat) (ls : mL) (st : List Value) (σ : mS) : ev 33 28 (some (.ref x) :: ls) st σ = ev 33 29 (some (.ref x) :: ls) (.ref x :: st) σ := e_aload1 k33_28 rfl
theorem k33_29 : cod 33 29 = some (.getfield 21, 3, 3, 1, 0, 0) := rfl
theorem e33_29 (t : Nat) (ls : mL) (st : List Value) (σ : mS) : ev 33 29 ls (.ref t :: st) σ = gfK (σ.1 t) 3 1 (fun v => ev 33 32 ls (v :: st) σ) := e_getf k33_29
theorem k33_32 : cod 33 32 = some (.if_icmp .ge (16), 3, 48, 0, 0, 0) := rfl
theorem e33_32 (x y : Int32) (ls : mL) (st : List Value) (σ : mS) : ev 33 32 ls (.int y :: .int x :: st) σ = if y ≤ x then ev 33 48 ls st σ else ev 33 35 ls st σ := e_ic_ge k33_32
theorem k33_35 : cod 33 35 = some (.aload_n 0, 1, 0, 0, 0, 0) := rfl
theorem e33_35 (x : Nat) (ls : mL) (st : List Value) (σ : mS) : ev 33 35 (some (.ref x) :: ls) st σ = ev 33 36 (some (.ref x) :: ls) (.ref x :: st) σ := e_aload1 k33_35 rfl
theorem k33_36 : cod 33 36 = some (.iload_n 1, 1, 0, 0, 0, 0) := rfl
theorem e33_36 (a0 : Option Value) (x : Int32) (ls : mL) (st : List Value) (σ : mS) : ev 33 36 (a0 :: some (.int x) :: ls) st σ = ev 33 37 (a0 :: some (.int x) :: ls) (.int x :: st) σ := e_iload1 k33_36 rfl
theorem k33_37 : cod 33 37 = some (.iload_n 2, 1, 0, 0, 0, 0) := rfl
theorem e33_37 (a0 a1 : Option Value) (x : Int32) (ls : mL) (st : List Value) (σ : mS) : ev 33 37 (a0 :: a1 :: some (.int x) :: ls) st σ = ev 33 38 (a0 :: a1 :: some (.int x) :: ls) (.int x :: st) σ := e_iload1 k33_37 rfl
theorem k33_38 : cod 33 38 = some (.iconst 0, 1, 0, 0, 0, 0) := rfl
theorem e33_38 (ls : mL) (st : List Value) (σ : mS) : ev 33 38 ls st σ = ev 33 39 ls (.int 0 :: st) σ := e_iconst 0 k33_38 (by decide)
theorem k33_39 : cod 33 39 = some (.invokevirtual 35, 3, 35, 3, 0, 3) := rfl
theorem e33_39 (t : Nat) (x0 : Int32) (x1 : Int32) (x2 : Int32) (ls : mL) (st : List Value) (σ : mS) (hm : mCat st ≤ 8) : ev 33 39 ls (.int x2 :: .int x1 :: .int x0 :: .ref t :: st) σ = isC (σ.1 t) 3 ((evM 35 [.ref t, .int x0, .int x1, .int x2] σ).bind fun z => ev 33 42 ls (z.1.toList ++ st) z.2) := e_callVK k33_39 (by decide) rfl ⟨hm, Nat.le_of_ble_eq_true rfl⟩
theorem k33_42 : cod 33 42 = some (.iinc 2 (1), 3, 0, 0, 0, 0) := rfl
theorem e33_42i (a0 : Option Value) (y : Int32) (x : Int32) (ls : mL) (st : List Value) (σ : mS) : ev 33 42 (a0 :: some (.int y) :: some (.int x) :: ls) st σ = ev 33 45 (a0 :: some (.int y) :: some (.int (x + 1)) :: ls) st σ := e_iinc 1 k33_42 (by decide) rfl
theorem e33_42n (a0 : Option Value) (x : Int32) (ls : mL) (st : List Value) (σ : mS) : ev 33 42 (a0 :: none :: some (.int x) :: ls) st σ = ev 33 45 (a0 :: none :: some (.int (x + 1)) :: ls) st σ := e_iinc 1 k33_42 (by decide) rfl
theorem e33_42r (a0 : Option Value) (y : Nat) (x : Int32) (ls : mL) (st : List Value) (σ : mS) : ev 33 42 (a0 :: some (.ref y) :: some (.int x) :: ls) st σ = ev 33 45 (a0 :: some (.ref y) :: some (.int (x + 1)) :: ls) st σ := e_iinc 1 k33_42 (by decide) rfl
theorem k33_45 : cod 33 45 = some (.goto (-18), 3, 27, 0, 0, 0) := rfl
theorem e33_45 (ls : mL) (st : List Value) (σ : mS) : ev 33 45 ls st σ = ev 33 27 ls st σ := e_goto k33_45
theorem k33_48 : cod 33 48 = some (.iload_n 1, 1, 0, 0, 0, 0) := rfl
theorem e33_48 (a0 : Option Value) (x : Int32) (ls : mL) (st : List Value) (σ : mS) : ev 33 48 (a0 :: some (.int x) :: ls) st σ = ev 33 49 (a0 :: some (.int x) :: ls) (.int x :: st) σ := e_iload1 k33_48 rfl
theorem k33_49 : cod 33 49 = some (.ireturn, 1, 0, 0, 0, 0) := rfl
theorem e33_49 (x : Int32) (ls : mL) (σ : mS) : ev 33 49 ls [.int x] σ = some (some (.int x), σ) := e_iret k33_49 rfl
theorem m33 (t : Nat) (σ : mS) : evM 33 [.ref t] σ = ev 33 0 [some (.ref t), none, none] [] σ := rfl
theorem k34_0 : cod 34 0 = some (.aload_n 0, 1, 0, 0, 0, 0) := rfl
theorem e34_0 (x : Nat) (ls : mL) (st : List Value) (σ : mS) : ev 34 0 (some (.ref x) :: ls) st σ = ev 34 1 (some (.ref x) :: ls) (.ref x :: st) σ := e_aload1 k34_0 rfl
theorem k34_1 : cod 34 1 = some (.getfield 28, 3, 3, 3, 0, 0) := rfl
theorem e34_1 (t : Nat) (ls : mL) (st : List Value) (σ : mS) : ev 34 1 ls (.ref t :: st) σ = gfK (σ.1 t) 3 3 (fun v => ev 34 4 ls (v :: st) σ) := e_getf k34_1
theorem k34_4 : cod 34 4 = some (.aload_n 0, 1, 0, 0, 0, 0) := rfl
theorem e34_4 (x : Nat) (ls : mL) (st : List Value) (σ : mS) : ev 34 4 (some (.ref x) :: ls) st σ = ev 34 5 (some (.ref x) :: ls) (.ref x :: st) σ := e_aload1 k34_4 rfl
theorem k34_5 : cod 34 5 = some (.getfield 15, 3, 3, 0, 0, 0) := rfl
theorem e34_5 (t : Nat) (ls : mL) (st : List Value) (σ : mS) : ev 34 5 ls (.ref t :: st) σ = gfK (σ.1 t) 3 0 (fun v => ev 34 8 ls (v :: st) σ) := e_getf k34_5
theorem k34_8 : cod 34 8 = some (.if_icmp .lt (7), 3, 15, 0, 0, 0) := rfl
theorem e34_8 (x y : Int32) (ls : mL) (st : List Value) (σ : mS) : ev 34 8 ls (.int y :: .int x :: st) σ = if x < y then ev 34 15 ls st σ else ev 34 11 ls st σ := e_ic_lt k34_8
theorem k34_11 : cod 34 11 = some (.iconst 1, 1, 0, 0, 0, 0) := rfl
theorem e34_11 (ls : mL) (st : List Value) (σ : mS) : ev 34 11 ls st σ = ev 34 12 ls (.int 1 :: st) σ := e_iconst 1 k34_11 (by decide)
theorem k34_12 : cod 34 12 = some (.goto (4), 3, 16, 0, 0, 0) := rfl
theorem e34_12 (ls : mL) (st : List Value) (σ : mS) : ev 34 12 ls st σ = ev 34 16 ls st σ := e_goto k34_12
theorem k34_15 : cod 34 15 = some (.iconst 0, 1, 0, 0, 0, 0) := rfl
theorem e34_15 (ls : mL) (st : List Value) (σ : mS) : ev 34 15 ls st σ = ev 34 16 ls (.int 0 :: st) σ := e_iconst 0 k34_15 (by decide)
theorem k34_16 : cod 34 16 = some (.ireturn, 1, 0, 0, 0, 0) := rfl
theorem e34_16 (x : Int32) (ls : mL) (σ : mS) : ev 34 16 ls [.int x] σ = if x = 0 ∨ x = 1 then some (some (.int x), σ) else none := e_zret k34_16 rfl
theorem e34_16b0 (ls : mL) (σ : mS) : ev 34 16 ls [.int 0] σ = some (some (.int 0), σ) := (e_zret k34_16 rfl).trans (if_pos (Or.inl rfl))
theorem e34_16b1 (ls : mL) (σ : mS) : ev 34 16 ls [.int 1] σ = some (some (.int 1), σ) := (e_zret k34_16 rfl).trans (if_pos (Or.inr rfl))
theorem m34 (t : Nat) (σ : mS) : evM 34 [.ref t] σ = ev 34 0 [some (.ref t)] [] σ := rfl
theorem k35_0 : cod 35 0 = some (.aload_n 0, 1, 0, 0, 0, 0) := rfl
theorem e35_0 (x : Nat) (ls : mL) (st : List Value) (σ : mS) : ev 35 0 (some (.ref x) :: ls) st σ = ev 35 1 (some (.ref x) :: ls) (.ref x :: st) σ := e_aload1 k35_0 rfl
theorem k35_1 : cod 35 1 = some (.iload_n 1, 1, 0, 0, 0, 0) := rfl
theorem e35_1 (a0 : Option Value) (x : Int32) (ls : mL) (st : List Value) (σ : mS) : ev 35 1 (a0 :: some (.int x) :: ls) st σ = ev 35 2 (a0 :: some (.int x) :: ls) (.int x :: st) σ := e_iload1 k35_1 rfl
theorem k35_2 : cod 35 2 = some (.iload_n 2, 1, 0, 0, 0, 0) := rfl
theorem e35_2 (a0 a1 : Option Value) (x : Int32) (ls : mL) (st : List Value) (σ : mS) : ev 35 2 (a0 :: a1 :: some (.int x) :: ls) st σ = ev 35 3 (a0 :: a1 :: some (.int x) :: ls) (.int x :: st) σ := e_iload1 k35_2 rfl
theorem k35_3 : cod 35 3 = some (.invokevirtual 39, 3, 36, 2, 0, 3) := rfl
theorem e35_3 (t : Nat) (x0 : Int32) (x1 : Int32) (ls : mL) (st : List Value) (σ : mS) (hm : mCat st ≤ 8) : ev 35 3 ls (.int x1 :: .int x0 :: .ref t :: st) σ = isC (σ.1 t) 3 ((evM 36 [.ref t, .int x0, .int x1] σ).bind fun z => ev 35 6 ls (z.1.toList ++ st) z.2) := e_callVK k35_3 (by decide) rfl ⟨hm, Nat.le_of_ble_eq_true rfl⟩
theorem k35_6 : cod 35 6 = some (.istore 4, 2, 0, 0, 0, 0) := rfl
theorem e35_6i (a0 a1 a2 : Option Value) (y : Int32) (o : Option Value) (x : Int32) (ls : mL) (st : List Value) (σ : mS) : ev 35 6 (a0 :: a1 :: a2 :: some (.int y) :: o :: ls) (.int x :: st) σ = ev 35 8 (a0 :: a1 :: a2 :: some (.int y) :: some (.int x) :: ls) st σ := e_istore0 k35_6 (Nat.le_add_left 5 ls.length)
theorem e35_6n (a0 a1 a2 : Option Value) (o : Option Value) (x : Int32) (ls : mL) (st : List Value) (σ : mS) : ev 35 6 (a0 :: a1 :: a2 :: none :: o :: ls) (.int x :: st) σ = ev 35 8 (a0 :: a1 :: a2 :: none :: some (.int x) :: ls) st σ := e_istore0 k35_6 (Nat.le_add_left 5 ls.length)
theorem e35_6r (a0 a1 a2 : Option Value) (y : Nat) (o : Option Value) (x : Int32) (ls : mL) (st : List Value) (σ : mS) : ev 35 6 (a0 :: a1 :: a2 :: some (.ref y) :: o :: ls) (.int x :: st) σ = ev 35 8 (a0 :: a1 :: a2 :: some (.ref y) :: some (.int x) :: ls) st σ := e_istore0 k35_6 (Nat.le_add_left 5 ls.length)
theorem k35_8 : cod 35 8 = some (.iload 4, 2, 0, 0, 0, 0) := rfl
theorem e35_8 (a0 a1 a2 a3 : Option Value) (x : Int32) (ls : mL) (st : List Value) (σ : mS) : ev 35 8 (a0 :: a1 :: a2 :: a3 :: some (.int x) :: ls) st σ = ev 35 10 (a0 :: a1 :: a2 :: a3 :: some (.int x) :: ls) (.int x :: st) σ := e_iload0 k35_8 rfl
theorem k35_10 : cod 35 10 = some (.ifCond .lt (11), 3, 21, 0, 0, 0) := rfl
theorem e35_10 (x : Int32) (ls : mL) (st : List Value) (σ : mS) : ev 35 10 ls (.int x :: st) σ = if x < 0 then ev 35 21 ls st σ else ev 35 13 ls st σ := e_if_lt k35_10
theorem k35_13 : cod 35 13 = some (.aload_n 0, 1, 0, 0, 0, 0) := rfl
theorem e35_13 (x : Nat) (ls : mL) (st : List Value) (σ : mS) : ev 35 13 (some (.ref x) :: ls) st σ = ev 35 14 (some (.ref x) :: ls) (.ref x :: st) σ := e_aload1 k35_13 rfl
theorem k35_14 : cod 35 14 = some (.getfield 24, 3, 3, 2, 0, 3) := rfl
theorem e35_14 (t : Nat) (ls : mL) (st : List Value) (σ : mS) : ev 35 14 ls (.ref t :: st) σ = gfK (σ.1 t) 3 2 (fun v => ev 35 17 ls (v :: st) σ) := e_getf k35_14
theorem k35_17 : cod 35 17 = some (.iload 4, 2, 0, 0, 0, 0) := rfl
theorem e35_17 (a0 a1 a2 a3 : Option Value) (x : Int32) (ls : mL) (st : List Value) (σ : mS) : ev 35 17 (a0 :: a1 :: a2 :: a3 :: some (.int x) :: ls) st σ = ev 35 19 (a0 :: a1 :: a2 :: a3 :: some (.int x) :: ls) (.int x :: st) σ := e_iload0 k35_17 rfl
theorem k35_19 : cod 35 19 = some (.iload_n 3, 1, 0, 0, 0, 0) := rfl
theorem e35_19 (a0 a1 a2 : Option Value) (x : Int32) (ls : mL) (st : List Value) (σ : mS) : ev 35 19 (a0 :: a1 :: a2 :: some (.int x) :: ls) st σ = ev 35 20 (a0 :: a1 :: a2 :: some (.int x) :: ls) (.int x :: st) σ := e_iload1 k35_19 rfl
theorem k35_20 : cod 35 20 = some (.iastore, 1, 0, 0, 0, 0) := rfl
theorem e35_20 (j x : Int32) (t : Nat) (ls : mL) (st : List Value) (σ : mS) : ev 35 20 ls (.int x :: .int j :: .ref t :: st) σ = asK (σ.1 t) 0 j x (fun e => ev 35 21 ls st (mset σ t e)) := e_iast k35_20
theorem k35_21 : cod 35 21 = some (.return_, 1, 0, 0, 0, 0) := rfl
theorem e35_21 (ls : mL) (σ : mS) : ev 35 21 ls [] σ = some (none, σ) := e_vret k35_21 rfl
theorem m35 (t : Nat) (x0 : Int32) (x1 : Int32) (x2 : Int32) (σ : mS) : evM 35 [.ref t, .int x0, .int x1, .int x2] σ = ev 35 0 [some (.ref t), some (.int x0), some (.int x1), some (.int x2), none] [] σ := rfl
theorem k36_0 : cod 36 0 = some (.iload_n 1, 1, 0, 0, 0, 0) := rfl
theorem e36_0 (a0 : Option Value) (x : Int32) (ls : mL) (st : List Value) (σ : mS) : ev 36 0 (a0 :: some (.int x) :: ls) st σ = ev 36 1 (a0 :: some (.int x) :: ls) (.int x :: st) σ := e_iload1 k36_0 rfl
theorem k36_1 : cod 36 1 = some (.ifCond .lt (23), 3, 24, 0, 0, 0) := rfl
theorem e36_1 (x : Int32) (ls : mL) (st : List Value) (σ : mS) : ev 36 1 ls (.int x :: st) σ = if x < 0 then ev 36 24 ls st σ else ev 36 4 ls st σ := e_if_lt k36_1
theorem k36_4 : cod 36 4 = some (.iload_n 1, 1, 0, 0, 0, 0) := rfl
theorem e36_4 (a0 : Option Value) (x : Int32) (ls : mL) (st : List Value) (σ : mS) : ev 36 4 (a0 :: some (.int x) :: ls) st σ = ev 36 5 (a0 :: some (.int x) :: ls) (.int x :: st) σ := e_iload1 k36_4 rfl
theorem k36_5 : cod 36 5 = some (.aload_n 0, 1, 0, 0, 0, 0) := rfl
theorem e36_5 (x : Nat) (ls : mL) (st : List Value) (σ : mS) : ev 36 5 (some (.ref x) :: ls) st σ = ev 36 6 (some (.ref x) :: ls) (.ref x :: st) σ := e_aload1 k36_5 rfl
theorem k36_6 : cod 36 6 = some (.getfield 28, 3, 3, 3, 0, 0) := rfl
theorem e36_6 (t : Nat) (ls : mL) (st : List Value) (σ : mS) : ev 36 6 ls (.ref t :: st) σ = gfK (σ.1 t) 3 3 (fun v => ev 36 9 ls (v :: st) σ) := e_getf k36_6
theorem k36_9 : cod 36 9 = some (.if_icmp .ge (15), 3, 24, 0, 0, 0) := rfl
theorem e36_9 (x y : Int32) (ls : mL) (st : List Value) (σ : mS) : ev 36 9 ls (.int y :: .int x :: st) σ = if y ≤ x then ev 36 24 ls st σ else ev 36 12 ls st σ := e_ic_ge k36_9
theorem k36_12 : cod 36 12 = some (.iload_n 2, 1, 0, 0, 0, 0) := rfl
theorem e36_12 (a0 a1 : Option Value) (x : Int32) (ls : mL) (st : List Value) (σ : mS) : ev 36 12 (a0 :: a1 :: some (.int x) :: ls) st σ = ev 36 13 (a0 :: a1 :: some (.int x) :: ls) (.int x :: st) σ := e_iload1 k36_12 rfl
theorem k36_13 : cod 36 13 = some (.ifCond .lt (11), 3, 24, 0, 0, 0) := rfl
theorem e36_13 (x : Int32) (ls : mL) (st : List Value) (σ : mS) : ev 36 13 ls (.int x :: st) σ = if x < 0 then ev 36 24 ls st σ else ev 36 16 ls st σ := e_if_lt k36_13
theorem k36_16 : cod 36 16 = some (.iload_n 2, 1, 0, 0, 0, 0) := rfl
theorem e36_16 (a0 a1 : Option Value) (x : Int32) (ls : mL) (st : List Value) (σ : mS) : ev 36 16 (a0 :: a1 :: some (.int x) :: ls) st σ = ev 36 17 (a0 :: a1 :: some (.int x) :: ls) (.int x :: st) σ := e_iload1 k36_16 rfl
theorem k36_17 : cod 36 17 = some (.aload_n 0, 1, 0, 0, 0, 0) := rfl
theorem e36_17 (x : Nat) (ls : mL) (st : List Value) (σ : mS) : ev 36 17 (some (.ref x) :: ls) st σ = ev 36 18 (some (.ref x) :: ls) (.ref x :: st) σ := e_aload1 k36_17 rfl
theorem k36_18 : cod 36 18 = some (.getfield 21, 3, 3, 1, 0, 0) := rfl
theorem e36_18 (t : Nat) (ls : mL) (st : List Value) (σ : mS) : ev 36 18 ls (.ref t :: st) σ = gfK (σ.1 t) 3 1 (fun v => ev 36 21 ls (v :: st) σ) := e_getf k36_18
theorem k36_21 : cod 36 21 = some (.if_icmp .lt (5), 3, 26, 0, 0, 0) := rfl
theorem e36_21 (x y : Int32) (ls : mL) (st : List Value) (σ : mS) : ev 36 21 ls (.int y :: .int x :: st) σ = if x < y then ev 36 26 ls st σ else ev 36 24 ls st σ := e_ic_lt k36_21
theorem k36_24 : cod 36 24 = some (.iconst (-1), 1, 0, 0, 0, 0) := rfl
theorem e36_24 (ls : mL) (st : List Value) (σ : mS) : ev 36 24 ls st σ = ev 36 25 ls (.int (-1) :: st) σ := e_iconst (-1) k36_24 (by decide)
theorem k36_25 : cod 36 25 = some (.ireturn, 1, 0, 0, 0, 0) := rfl
theorem e36_25 (x : Int32) (ls : mL) (σ : mS) : ev 36 25 ls [.int x] σ = some (some (.int x), σ) := e_iret k36_25 rfl
theorem k36_26 : cod 36 26 = some (.iload_n 1, 1, 0, 0, 0, 0) := rfl
theorem e36_26 (a0 : Option Value) (x : Int32) (ls : mL) (st : List Value) (σ : mS) : ev 36 26 (a0 :: some (.int x) :: ls) st σ = ev 36 27 (a0 :: some (.int x) :: ls) (.int x :: st) σ := e_iload1 k36_26 rfl
theorem k36_27 : cod 36 27 = some (.aload_n 0, 1, 0, 0, 0, 0) := rfl
theorem e36_27 (x : Nat) (ls : mL) (st : List Value) (σ : mS) : ev 36 27 (some (.ref x) :: ls) st σ = ev 36 28 (some (.ref x) :: ls) (.ref x :: st) σ := e_aload1 k36_27 rfl
theorem k36_28 : cod 36 28 = some (.getfield 21, 3, 3, 1, 0, 0) := rfl
theorem e36_28 (t : Nat) (ls : mL) (st : List Value) (σ : mS) : ev 36 28 ls (.ref t :: st) σ = gfK (σ.1 t) 3 1 (fun v => ev 36 31 ls (v :: st) σ) := e_getf k36_28
theorem k36_31 : cod 36 31 = some (.imul, 1, 0, 0, 0, 0) := rfl
theorem e36_31 (x y : Int32) (ls : mL) (st : List Value) (σ : mS) : ev 36 31 ls (.int y :: .int x :: st) σ = ev 36 32 ls (.int (x * y) :: st) σ := e_imul k36_31
theorem k36_32 : cod 36 32 = some (.iload_n 2, 1, 0, 0, 0, 0) := rfl
theorem e36_32 (a0 a1 : Option Value) (x : Int32) (ls : mL) (st : List Value) (σ : mS) : ev 36 32 (a0 :: a1 :: some (.int x) :: ls) st σ = ev 36 33 (a0 :: a1 :: some (.int x) :: ls) (.int x :: st) σ := e_iload1 k36_32 rfl
theorem k36_33 : cod 36 33 = some (.iadd, 1, 0, 0, 0, 0) := rfl
theorem e36_33 (x y : Int32) (ls : mL) (st : List Value) (σ : mS) : ev 36 33 ls (.int y :: .int x :: st) σ = ev 36 34 ls (.int (x + y) :: st) σ := e_iadd k36_33
theorem k36_34 : cod 36 34 = some (.istore_n 3, 1, 0, 0, 0, 0) := rfl
theorem e36_34i (a0 a1 : Option Value) (y : Int32) (o : Option Value) (x : Int32) (ls : mL) (st : List Value) (σ : mS) : ev 36 34 (a0 :: a1 :: some (.int y) :: o :: ls) (.int x :: st) σ = ev 36 35 (a0 :: a1 :: some (.int y) :: some (.int x) :: ls) st σ := e_istore1 k36_34 (Nat.le_add_left 4 ls.length)
theorem e36_34n (a0 a1 : Option Value) (o : Option Value) (x : Int32) (ls : mL) (st : List Value) (σ : mS) : ev 36 34 (a0 :: a1 :: none :: o :: ls) (.int x :: st) σ = ev 36 35 (a0 :: a1 :: none :: some (.int x) :: ls) st σ := e_istore1 k36_34 (Nat.le_add_left 4 ls.length)
theorem e36_34r (a0 a1 : Option Value) (y : Nat) (o : Option Value) (x : Int32) (ls : mL) (st : List Value) (σ : mS) : ev 36 34 (a0 :: a1 :: some (.ref y) :: o :: ls) (.int x :: st) σ = ev 36 35 (a0 :: a1 :: some (.ref y) :: some (.int x) :: ls) st σ := e_istore1 k36_34 (Nat.le_add_left 4 ls.length)
theorem k36_35 : cod 36 35 = some (.iload_n 3, 1, 0, 0, 0, 0) := rfl
theorem e36_35 (a0 a1 a2 : Option Value) (x : Int32) (ls : mL) (st : List Value) (σ : mS) : ev 36 35 (a0 :: a1 :: a2 :: some (.int x) :: ls) st σ = ev 36 36 (a0 :: a1 :: a2 :: some (.int x) :: ls) (.int x :: st) σ := e_iload1 k36_35 rfl
theorem k36_36 : cod 36 36 = some (.aload_n 0, 1, 0, 0, 0, 0) := rfl
theorem e36_36 (x : Nat) (ls : mL) (st : List Value) (σ : mS) : ev 36 36 (some (.ref x) :: ls) st σ = ev 36 37 (some (.ref x) :: ls) (.ref x :: st) σ := e_aload1 k36_36 rfl
theorem k36_37 : cod 36 37 = some (.getfield 24, 3, 3, 2, 0, 3) := rfl
theorem e36_37 (t : Nat) (ls : mL) (st : List Value) (σ : mS) : ev 36 37 ls (.ref t :: st) σ = gfK (σ.1 t) 3 2 (fun v => ev 36 40 ls (v :: st) σ) := e_getf k36_37
theorem k36_40 : cod 36 40 = some (.arraylength, 1, 0, 0, 0, 0) := rfl
theorem e36_40 (t : Nat) (ls : mL) (st : List Value) (σ : mS) : ev 36 40 ls (.ref t :: st) σ = lnK (σ.1 t) (fun v => ev 36 41 ls (.int v :: st) σ) := e_alenK k36_40
theorem k36_41 : cod 36 41 = some (.if_icmp .ge (7), 3, 48, 0, 0, 0) := rfl
theorem e36_41 (x y : Int32) (ls : mL) (st : List Value) (σ : mS) : ev 36 41 ls (.int y :: .int x :: st) σ = if y ≤ x then ev 36 48 ls st σ else ev 36 44 ls st σ := e_ic_ge k36_41
theorem k36_44 : cod 36 44 = some (.iload_n 3, 1, 0, 0, 0, 0) := rfl
theorem e36_44 (a0 a1 a2 : Option Value) (x : Int32) (ls : mL) (st : List Value) (σ : mS) : ev 36 44 (a0 :: a1 :: a2 :: some (.int x) :: ls) st σ = ev 36 45 (a0 :: a1 :: a2 :: some (.int x) :: ls) (.int x :: st) σ := e_iload1 k36_44 rfl
theorem k36_45 : cod 36 45 = some (.goto (4), 3, 49, 0, 0, 0) := rfl
theorem e36_45 (ls : mL) (st : List Value) (σ : mS) : ev 36 45 ls st σ = ev 36 49 ls st σ := e_goto k36_45
theorem k36_48 : cod 36 48 = some (.iconst (-1), 1, 0, 0, 0, 0) := rfl
theorem e36_48 (ls : mL) (st : List Value) (σ : mS) : ev 36 48 ls st σ = ev 36 49 ls (.int (-1) :: st) σ := e_iconst (-1) k36_48 (by decide)
theorem k36_49 : cod 36 49 = some (.ireturn, 1, 0, 0, 0, 0) := rfl
theorem e36_49 (x : Int32) (ls : mL) (σ : mS) : ev 36 49 ls [.int x] σ = some (some (.int x), σ) := e_iret k36_49 rfl
theorem m36 (t : Nat) (x0 : Int32) (x1 : Int32) (σ : mS) : evM 36 [.ref t, .int x0, .int x1] σ = ev 36 0 [some (.ref t), some (.int x0), some (.int x1), none] [] σ := rfl
theorem k37_0 : cod 37 0 = some (.iload_n 1, 1, 0, 0, 0, 0) := rfl
theorem e37_0 (a0 : Option Value) (x : Int32) (ls : mL) (st : List Value) (σ : mS) : ev 37 0 (a0 :: some (.int x) :: ls) st σ = ev 37 1 (a0 :: some (.int x) :: ls) (.int x :: st) σ := e_iload1 k37_0 rfl
theorem k37_1 : cod 37 1 = some (.ifCond .lt (15), 3, 16, 0, 0, 0) := rfl
theorem e37_1 (x : Int32) (ls : mL) (st : List Value) (σ : mS) : ev 37 1 ls (.int x :: st) σ = if x < 0 then ev 37 16 ls st σ else ev 37 4 ls st σ := e_if_lt k37_1
theorem k37_4 : cod 37 4 = some (.iload_n 1, 1, 0, 0, 0, 0) := rfl
theorem e37_4 (a0 : Option Value) (x : Int32) (ls : mL) (st : List Value) (σ : mS) : ev 37 4 (a0 :: some (.int x) :: ls) st σ = ev 37 5 (a0 :: some (.int x) :: ls) (.int x :: st) σ := e_iload1 k37_4 rfl
theorem k37_5 : cod 37 5 = some (.aload_n 0, 1, 0, 0, 0, 0) := rfl
theorem e37_5 (x : Nat) (ls : mL) (st : List Value) (σ : mS) : ev 37 5 (some (.ref x) :: ls) st σ = ev 37 6 (some (.ref x) :: ls) (.ref x :: st) σ := e_aload1 k37_5 rfl
theorem k37_6 : cod 37 6 = some (.getfield 28, 3, 3, 3, 0, 0) := rfl
theorem e37_6 (t : Nat) (ls : mL) (st : List Value) (σ : mS) : ev 37 6 ls (.ref t :: st) σ = gfK (σ.1 t) 3 3 (fun v => ev 37 9 ls (v :: st) σ) := e_getf k37_6
theorem k37_9 : cod 37 9 = some (.if_icmp .ge (7), 3, 16, 0, 0, 0) := rfl
theorem e37_9 (x y : Int32) (ls : mL) (st : List Value) (σ : mS) : ev 37 9 ls (.int y :: .int x :: st) σ = if y ≤ x then ev 37 16 ls st σ else ev 37 12 ls st σ := e_ic_ge k37_9
theorem k37_12 : cod 37 12 = some (.iconst 1, 1, 0, 0, 0, 0) := rfl
theorem e37_12 (ls : mL) (st : List Value) (σ : mS) : ev 37 12 ls st σ = ev 37 13 ls (.int 1 :: st) σ := e_iconst 1 k37_12 (by decide)
theorem k37_13 : cod 37 13 = some (.goto (4), 3, 17, 0, 0, 0) := rfl
theorem e37_13 (ls : mL) (st : List Value) (σ : mS) : ev 37 13 ls st σ = ev 37 17 ls st σ := e_goto k37_13
theorem k37_16 : cod 37 16 = some (.iconst 0, 1, 0, 0, 0, 0) := rfl
theorem e37_16 (ls : mL) (st : List Value) (σ : mS) : ev 37 16 ls st σ = ev 37 17 ls (.int 0 :: st) σ := e_iconst 0 k37_16 (by decide)
theorem k37_17 : cod 37 17 = some (.ireturn, 1, 0, 0, 0, 0) := rfl
theorem e37_17 (x : Int32) (ls : mL) (σ : mS) : ev 37 17 ls [.int x] σ = if x = 0 ∨ x = 1 then some (some (.int x), σ) else none := e_zret k37_17 rfl
theorem e37_17b0 (ls : mL) (σ : mS) : ev 37 17 ls [.int 0] σ = some (some (.int 0), σ) := (e_zret k37_17 rfl).trans (if_pos (Or.inl rfl))
theorem e37_17b1 (ls : mL) (σ : mS) : ev 37 17 ls [.int 1] σ = some (some (.int 1), σ) := (e_zret k37_17 rfl).trans (if_pos (Or.inr rfl))
theorem m37 (t : Nat) (x0 : Int32) (σ : mS) : evM 37 [.ref t, .int x0] σ = ev 37 0 [some (.ref t), some (.int x0)] [] σ := rfl
theorem k38_0 : cod 38 0 = some (.aload_n 0, 1, 0, 0, 0, 0) := rfl
theorem e38_0 (x : Nat) (ls : mL) (st : List Value) (σ : mS) : ev 38 0 (some (.ref x) :: ls) st σ = ev 38 1 (some (.ref x) :: ls) (.ref x :: st) σ := e_aload1 k38_0 rfl
theorem k38_1 : cod 38 1 = some (.iload_n 1, 1, 0, 0, 0, 0) := rfl
theorem e38_1 (a0 : Option Value) (x : Int32) (ls : mL) (st : List Value) (σ : mS) : ev 38 1 (a0 :: some (.int x) :: ls) st σ = ev 38 2 (a0 :: some (.int x) :: ls) (.int x :: st) σ := e_iload1 k38_1 rfl
theorem k38_2 : cod 38 2 = some (.iload_n 2, 1, 0, 0, 0, 0) := rfl
theorem e38_2 (a0 a1 : Option Value) (x : Int32) (ls : mL) (st : List Value) (σ : mS) : ev 38 2 (a0 :: a1 :: some (.int x) :: ls) st σ = ev 38 3 (a0 :: a1 :: some (.int x) :: ls) (.int x :: st) σ := e_iload1 k38_2 rfl
theorem k38_3 : cod 38 3 = some (.invokevirtual 39, 3, 36, 2, 0, 3) := rfl
theorem e38_3 (t : Nat) (x0 : Int32) (x1 : Int32) (ls : mL) (st : List Value) (σ : mS) (hm : mCat st ≤ 8) : ev 38 3 ls (.int x1 :: .int x0 :: .ref t :: st) σ = isC (σ.1 t) 3 ((evM 36 [.ref t, .int x0, .int x1] σ).bind fun z => ev 38 6 ls (z.1.toList ++ st) z.2) := e_callVK k38_3 (by decide) rfl ⟨hm, Nat.le_of_ble_eq_true rfl⟩
theorem k38_6 : cod 38 6 = some (.istore_n 3, 1, 0, 0, 0, 0) := rfl
theorem e38_6i (a0 a1 : Option Value) (y : Int32) (o : Option Value) (x : Int32) (ls : mL) (st : List Value) (σ : mS) : ev 38 6 (a0 :: a1 :: some (.int y) :: o :: ls) (.int x :: st) σ = ev 38 7 (a0 :: a1 :: some (.int y) :: some (.int x) :: ls) st σ := e_istore1 k38_6 (Nat.le_add_left 4 ls.length)
theorem e38_6n (a0 a1 : Option Value) (o : Option Value) (x : Int32) (ls : mL) (st : List Value) (σ : mS) : ev 38 6 (a0 :: a1 :: none :: o :: ls) (.int x :: st) σ = ev 38 7 (a0 :: a1 :: none :: some (.int x) :: ls) st σ := e_istore1 k38_6 (Nat.le_add_left 4 ls.length)
theorem e38_6r (a0 a1 : Option Value) (y : Nat) (o : Option Value) (x : Int32) (ls : mL) (st : List Value) (σ : mS) : ev 38 6 (a0 :: a1 :: some (.ref y) :: o :: ls) (.int x :: st) σ = ev 38 7 (a0 :: a1 :: some (.ref y) :: some (.int x) :: ls) st σ := e_istore1 k38_6 (Nat.le_add_left 4 ls.length)
theorem k38_7 : cod 38 7 = some (.iload_n 3, 1, 0, 0, 0, 0) := rfl
theorem e38_7 (a0 a1 a2 : Option Value) (x : Int32) (ls : mL) (st : List Value) (σ : mS) : ev 38 7 (a0 :: a1 :: a2 :: some (.int x) :: ls) st σ = ev 38 8 (a0 :: a1 :: a2 :: some (.int x) :: ls) (.int x :: st) σ := e_iload1 k38_7 rfl
theorem k38_8 : cod 38 8 = some (.ifCond .ge (8), 3, 16, 0, 0, 0) := rfl
theorem e38_8 (x : Int32) (ls : mL) (st : List Value) (σ : mS) : ev 38 8 ls (.int x :: st) σ = if 0 ≤ x then ev 38 16 ls st σ else ev 38 11 ls st σ := e_if_ge k38_8
theorem k38_11 : cod 38 11 = some (.bipush (-9), 2, 0, 0, 0, 0) := rfl
theorem e38_11 (ls : mL) (st : List Value) (σ : mS) : ev 38 11 ls st σ = ev 38 13 ls (.int (-9) :: st) σ := e_bipush (-9) k38_11 (by decide)
theorem k38_13 : cod 38 13 = some (.goto (9), 3, 22, 0, 0, 0) := rfl
theorem e38_13 (ls : mL) (st : List Value) (σ : mS) : ev 38 13 ls st σ = ev 38 22 ls st σ := e_goto k38_13
theorem k38_16 : cod 38 16 = some (.aload_n 0, 1, 0, 0, 0, 0) := rfl
theorem e38_16 (x : Nat) (ls : mL) (st : List Value) (σ : mS) : ev 38 16 (some (.ref x) :: ls) st σ = ev 38 17 (some (.ref x) :: ls) (.ref x :: st) σ := e_aload1 k38_16 rfl
theorem k38_17 : cod 38 17 = some (.getfield 24, 3, 3, 2, 0, 3) := rfl
theorem e38_17 (t : Nat) (ls : mL) (st : List Value) (σ : mS) : ev 38 17 ls (.ref t :: st) σ = gfK (σ.1 t) 3 2 (fun v => ev 38 20 ls (v :: st) σ) := e_getf k38_17
theorem k38_20 : cod 38 20 = some (.iload_n 3, 1, 0, 0, 0, 0) := rfl
theorem e38_20 (a0 a1 a2 : Option Value) (x : Int32) (ls : mL) (st : List Value) (σ : mS) : ev 38 20 (a0 :: a1 :: a2 :: some (.int x) :: ls) st σ = ev 38 21 (a0 :: a1 :: a2 :: some (.int x) :: ls) (.int x :: st) σ := e_iload1 k38_20 rfl
theorem k38_21 : cod 38 21 = some (.iaload, 1, 0, 0, 0, 0) := rfl
theorem e38_21 (j : Int32) (t : Nat) (ls : mL) (st : List Value) (σ : mS) : ev 38 21 ls (.int j :: .ref t :: st) σ = alK (σ.1 t) 0 j (fun v => ev 38 22 ls (.int v :: st) σ) := e_iald k38_21
theorem k38_22 : cod 38 22 = some (.ireturn, 1, 0, 0, 0, 0) := rfl
theorem e38_22 (x : Int32) (ls : mL) (σ : mS) : ev 38 22 ls [.int x] σ = some (some (.int x), σ) := e_iret k38_22 rfl
theorem m38 (t : Nat) (x0 : Int32) (x1 : Int32) (σ : mS) : evM 38 [.ref t, .int x0, .int x1] σ = ev 38 0 [some (.ref t), some (.int x0), some (.int x1), none] [] σ := rfl
theorem k39_0 : cod 39 0 = some (.aload_n 0, 1, 0, 0, 0, 0) := rfl
theorem e39_0 (x : Nat) (ls : mL) (st : List Value) (σ : mS) : ev 39 0 (some (.ref x) :: ls) st σ = ev 39 1 (some (.ref x) :: ls) (.ref x :: st) σ := e_aload1 k39_0 rfl
theorem k39_1 : cod 39 1 = some (.iload_n 1, 1, 0, 0, 0, 0) := rfl
theorem e39_1 (a0 : Option Value) (x : Int32) (ls : mL) (st : List Value) (σ : mS) : ev 39 1 (a0 :: some (.int x) :: ls) st σ = ev 39 2 (a0 :: some (.int x) :: ls) (.int x :: st) σ := e_iload1 k39_1 rfl
theorem k39_2 : cod 39 2 = some (.iload_n 2, 1, 0, 0, 0, 0) := rfl
theorem e39_2 (a0 a1 : Option Value) (x : Int32) (ls : mL) (st : List Value) (σ : mS) : ev 39 2 (a0 :: a1 :: some (.int x) :: ls) st σ = ev 39 3 (a0 :: a1 :: some (.int x) :: ls) (.int x :: st) σ := e_iload1 k39_2 rfl
theorem k39_3 : cod 39 3 = some (.aload_n 0, 1, 0, 0, 0, 0) := rfl
theorem e39_3 (x : Nat) (ls : mL) (st : List Value) (σ : mS) : ev 39 3 (some (.ref x) :: ls) st σ = ev 39 4 (some (.ref x) :: ls) (.ref x :: st) σ := e_aload1 k39_3 rfl
theorem k39_4 : cod 39 4 = some (.iload_n 1, 1, 0, 0, 0, 0) := rfl
theorem e39_4 (a0 : Option Value) (x : Int32) (ls : mL) (st : List Value) (σ : mS) : ev 39 4 (a0 :: some (.int x) :: ls) st σ = ev 39 5 (a0 :: some (.int x) :: ls) (.int x :: st) σ := e_iload1 k39_4 rfl
theorem k39_5 : cod 39 5 = some (.iload_n 2, 1, 0, 0, 0, 0) := rfl
theorem e39_5 (a0 a1 : Option Value) (x : Int32) (ls : mL) (st : List Value) (σ : mS) : ev 39 5 (a0 :: a1 :: some (.int x) :: ls) st σ = ev 39 6 (a0 :: a1 :: some (.int x) :: ls) (.int x :: st) σ := e_iload1 k39_5 rfl
theorem k39_6 : cod 39 6 = some (.invokevirtual 42, 3, 38, 2, 0, 3) := rfl
theorem e39_6 (t : Nat) (x0 : Int32) (x1 : Int32) (ls : mL) (st : List Value) (σ : mS) (hm : mCat st ≤ 8) : ev 39 6 ls (.int x1 :: .int x0 :: .ref t :: st) σ = isC (σ.1 t) 3 ((evM 38 [.ref t, .int x0, .int x1] σ).bind fun z => ev 39 9 ls (z.1.toList ++ st) z.2) := e_callVK k39_6 (by decide) rfl ⟨hm, Nat.le_of_ble_eq_true rfl⟩
theorem k39_9 : cod 39 9 = some (.iload_n 3, 1, 0, 0, 0, 0) := rfl
theorem e39_9 (a0 a1 a2 : Option Value) (x : Int32) (ls : mL) (st : List Value) (σ : mS) : ev 39 9 (a0 :: a1 :: a2 :: some (.int x) :: ls) st σ = ev 39 10 (a0 :: a1 :: a2 :: some (.int x) :: ls) (.int x :: st) σ := e_iload1 k39_9 rfl
theorem k39_10 : cod 39 10 = some (.iadd, 1, 0, 0, 0, 0) := rfl
theorem e39_10 (x y : Int32) (ls : mL) (st : List Value) (σ : mS) : ev 39 10 ls (.int y :: .int x :: st) σ = ev 39 11 ls (.int (x + y) :: st) σ := e_iadd k39_10
theorem k39_11 : cod 39 11 = some (.invokevirtual 35, 3, 35, 3, 0, 3) := rfl
theorem e39_11 (t : Nat) (x0 : Int32) (x1 : Int32) (x2 : Int32) (ls : mL) (st : List Value) (σ : mS) (hm : mCat st ≤ 8) : ev 39 11 ls (.int x2 :: .int x1 :: .int x0 :: .ref t :: st) σ = isC (σ.1 t) 3 ((evM 35 [.ref t, .int x0, .int x1, .int x2] σ).bind fun z => ev 39 14 ls (z.1.toList ++ st) z.2) := e_callVK k39_11 (by decide) rfl ⟨hm, Nat.le_of_ble_eq_true rfl⟩
theorem k39_14 : cod 39 14 = some (.return_, 1, 0, 0, 0, 0) := rfl
theorem e39_14 (ls : mL) (σ : mS) : ev 39 14 ls [] σ = some (none, σ) := e_vret k39_14 rfl
theorem m39 (t : Nat) (x0 : Int32) (x1 : Int32) (x2 : Int32) (σ : mS) : evM 39 [.ref t, .int x0, .int x1, .int x2] σ = ev 39 0 [some (.ref t), some (.int x0), some (.int x1), some (.int x2)] [] σ := rfl
theorem k40_0 : cod 40 0 = some (.aload_n 0, 1, 0, 0, 0, 0) := rfl
theorem e40_0 (x : Nat) (ls : mL) (st : List Value) (σ : mS) : ev 40 0 (some (.ref x) :: ls) st σ = ev 40 1 (some (.ref x) :: ls) (.ref x :: st) σ := e_aload1 k40_0 rfl
theorem k40_1 : cod 40 1 = some (.aload_n 1, 1, 0, 0, 0, 0) := rfl
theorem e40_1 (a0 : Option Value) (x : Nat) (ls : mL) (st : List Value) (σ : mS) : ev 40 1 (a0 :: some (.ref x) :: ls) st σ = ev 40 2 (a0 :: some (.ref x) :: ls) (.ref x :: st) σ := e_aload1 k40_1 rfl
theorem k40_2 : cod 40 2 = some (.getfield 28, 3, 3, 3, 0, 0) := rfl
theorem e40_2 (t : Nat) (ls : mL) (st : List Value) (σ : mS) : ev 40 2 ls (.ref t :: st) σ = gfK (σ.1 t) 3 3 (fun v => ev 40 5 ls (v :: st) σ) := e_getf k40_2
theorem k40_5 : cod 40 5 = some (.putfield 28, 3, 3, 3, 0, 0) := rfl
theorem e40_5 (x : Int32) (t : Nat) (ls : mL) (st : List Value) (σ : mS) : ev 40 5 ls (.int x :: .ref t :: st) σ = pfK (σ.1 t) 3 3 (.int x) (fun e => ev 40 8 ls st (mset σ t e)) := e_putI k40_5
theorem k40_8 : cod 40 8 = some (.iconst 0, 1, 0, 0, 0, 0) := rfl
theorem e40_8 (ls : mL) (st : List Value) (σ : mS) : ev 40 8 ls st σ = ev 40 9 ls (.int 0 :: st) σ := e_iconst 0 k40_8 (by decide)
theorem k40_9 : cod 40 9 = some (.istore_n 2, 1, 0, 0, 0, 0) := rfl
theorem e40_9i (a0 : Option Value) (y : Int32) (o : Option Value) (x : Int32) (ls : mL) (st : List Value) (σ : mS) : ev 40 9 (a0 :: some (.int y) :: o :: ls) (.int x :: st) σ = ev 40 10 (a0 :: some (.int y) :: some (.int x) :: ls) st σ := e_istore1 k40_9 (Nat.le_add_left 3 ls.length)
theorem e40_9n (a0 : Option Value) (o : Option Value) (x : Int32) (ls : mL) (st : List Value) (σ : mS) : ev 40 9 (a0 :: none :: o :: ls) (.int x :: st) σ = ev 40 10 (a0 :: none :: some (.int x) :: ls) st σ := e_istore1 k40_9 (Nat.le_add_left 3 ls.length)
theorem e40_9r (a0 : Option Value) (y : Nat) (o : Option Value) (x : Int32) (ls : mL) (st : List Value) (σ : mS) : ev 40 9 (a0 :: some (.ref y) :: o :: ls) (.int x :: st) σ = ev 40 10 (a0 :: some (.ref y) :: some (.int x) :: ls) st σ := e_istore1 k40_9 (Nat.le_add_left 3 ls.length)
theorem k40_10 : cod 40 10 = some (.iload_n 2, 1, 0, 0, 0, 0) := rfl
theorem e40_10 (a0 a1 : Option Value) (x : Int32) (ls : mL) (st : List Value) (σ : mS) : ev 40 10 (a0 :: a1 :: some (.int x) :: ls) st σ = ev 40 11 (a0 :: a1 :: some (.int x) :: ls) (.int x :: st) σ := e_iload1 k40_10 rfl
theorem k40_11 : cod 40 11 = some (.aload_n 0, 1, 0, 0, 0, 0) := rfl
theorem e40_11 (x : Nat) (ls : mL) (st : List Value) (σ : mS) : ev 40 11 (some (.ref x) :: ls) st σ = ev 40 12 (some (.ref x) :: ls) (.ref x :: st) σ := e_aload1 k40_11 rfl
theorem k40_12 : cod 40 12 = some (.getfield 24, 3, 3, 2, 0, 3) := rfl
theorem e40_12 (t : Nat) (ls : mL) (st : List Value) (σ : mS) : ev 40 12 ls (.ref t :: st) σ = gfK (σ.1 t) 3 2 (fun v => ev 40 15 ls (v :: st) σ) := e_getf k40_12
theorem k40_15 : cod 40 15 = some (.arraylength, 1, 0, 0, 0, 0) := rfl
theorem e40_15 (t : Nat) (ls : mL) (st : List Value) (σ : mS) : ev 40 15 ls (.ref t :: st) σ = lnK (σ.1 t) (fun v => ev 40 16 ls (.int v :: st) σ) := e_alenK k40_15
theorem k40_16 : cod 40 16 = some (.if_icmp .ge (30), 3, 46, 0, 0, 0) := rfl
theorem e40_16 (x y : Int32) (ls : mL) (st : List Value) (σ : mS) : ev 40 16 ls (.int y :: .int x :: st) σ = if y ≤ x then ev 40 46 ls st σ else ev 40 19 ls st σ := e_ic_ge k40_16
theorem k40_19 : cod 40 19 = some (.iload_n 2, 1, 0, 0, 0, 0) := rfl
theorem e40_19 (a0 a1 : Option Value) (x : Int32) (ls : mL) (st : List Value) (σ : mS) : ev 40 19 (a0 :: a1 :: some (.int x) :: ls) st σ = ev 40 20 (a0 :: a1 :: some (.int x) :: ls) (.int x :: st) σ := e_iload1 k40_19 rfl
theorem k40_20 : cod 40 20 = some (.aload_n 1, 1, 0, 0, 0, 0) := rfl
theorem e40_20 (a0 : Option Value) (x : Nat) (ls : mL) (st : List Value) (σ : mS) : ev 40 20 (a0 :: some (.ref x) :: ls) st σ = ev 40 21 (a0 :: some (.ref x) :: ls) (.ref x :: st) σ := e_aload1 k40_20 rfl
theorem k40_21 : cod 40 21 = some (.getfield 24, 3, 3, 2, 0, 3) := rfl
theorem e40_21 (t : Nat) (ls : mL) (st : List Value) (σ : mS) : ev 40 21 ls (.ref t :: st) σ = gfK (σ.1 t) 3 2 (fun v => ev 40 24 ls (v :: st) σ) := e_getf k40_21
theorem k40_24 : cod 40 24 = some (.arraylength, 1, 0, 0, 0, 0) := rfl
theorem e40_24 (t : Nat) (ls : mL) (st : List Value) (σ : mS) : ev 40 24 ls (.ref t :: st) σ = lnK (σ.1 t) (fun v => ev 40 25 ls (.int v :: st) σ) := e_alenK k40_24
theorem k40_25 : cod 40 25 = some (.if_icmp .ge (21), 3, 46, 0, 0, 0) := rfl
theorem e40_25 (x y : Int32) (ls : mL) (st : List Value) (σ : mS) : ev 40 25 ls (.int y :: .int x :: st) σ = if y ≤ x then ev 40 46 ls st σ else ev 40 28 ls st σ := e_ic_ge k40_25
theorem k40_28 : cod 40 28 = some (.aload_n 0, 1, 0, 0, 0, 0) := rfl
theorem e40_28 (x : Nat) (ls : mL) (st : List Value) (σ : mS) : ev 40 28 (some (.ref x) :: ls) st σ = ev 40 29 (some (.ref x) :: ls) (.ref x :: st) σ := e_aload1 k40_28 rfl
theorem k40_29 : cod 40 29 = some (.getfield 24, 3, 3, 2, 0, 3) := rfl
theorem e40_29 (t : Nat) (ls : mL) (st : List Value) (σ : mS) : ev 40 29 ls (.ref t :: st) σ = gfK (σ.1 t) 3 2 (fun v => ev 40 32 ls (v :: st) σ) := e_getf k40_29
theorem k40_32 : cod 40 32 = some (.iload_n 2, 1, 0, 0, 0, 0) := rfl
theorem e40_32 (a0 a1 : Option Value) (x : Int32) (ls : mL) (st : List Value) (σ : mS) : ev 40 32 (a0 :: a1 :: some (.int x) :: ls) st σ = ev 40 33 (a0 :: a1 :: some (.int x) :: ls) (.int x :: st) σ := e_iload1 k40_32 rfl
theorem k40_33 : cod 40 33 = some (.aload_n 1, 1, 0, 0, 0, 0) := rfl
theorem e40_33 (a0 : Option Value) (x : Nat) (ls : mL) (st : List Value) (σ : mS) : ev 40 33 (a0 :: some (.ref x) :: ls) st σ = ev 40 34 (a0 :: some (.ref x) :: ls) (.ref x :: st) σ := e_aload1 k40_33 rfl
theorem k40_34 : cod 40 34 = some (.getfield 24, 3, 3, 2, 0, 3) := rfl
theorem e40_34 (t : Nat) (ls : mL) (st : List Value) (σ : mS) : ev 40 34 ls (.ref t :: st) σ = gfK (σ.1 t) 3 2 (fun v => ev 40 37 ls (v :: st) σ) := e_getf k40_34
theorem k40_37 : cod 40 37 = some (.iload_n 2, 1, 0, 0, 0, 0) := rfl
theorem e40_37 (a0 a1 : Option Value) (x : Int32) (ls : mL) (st : List Value) (σ : mS) : ev 40 37 (a0 :: a1 :: some (.int x) :: ls) st σ = ev 40 38 (a0 :: a1 :: some (.int x) :: ls) (.int x :: st) σ := e_iload1 k40_37 rfl
theorem k40_38 : cod 40 38 = some (.iaload, 1, 0, 0, 0, 0) := rfl
theorem e40_38 (j : Int32) (t : Nat) (ls : mL) (st : List Value) (σ : mS) : ev 40 38 ls (.int j :: .ref t :: st) σ = alK (σ.1 t) 0 j (fun v => ev 40 39 ls (.int v :: st) σ) := e_iald k40_38
theorem k40_39 : cod 40 39 = some (.iastore, 1, 0, 0, 0, 0) := rfl
theorem e40_39 (j x : Int32) (t : Nat) (ls : mL) (st : List Value) (σ : mS) : ev 40 39 ls (.int x :: .int j :: .ref t :: st) σ = asK (σ.1 t) 0 j x (fun e => ev 40 40 ls st (mset σ t e)) := e_iast k40_39
theorem k40_40 : cod 40 40 = some (.iinc 2 (1), 3, 0, 0, 0, 0) := rfl
theorem e40_40i (a0 : Option Value) (y : Int32) (x : Int32) (ls : mL) (st : List Value) (σ : mS) : ev 40 40 (a0 :: some (.int y) :: some (.int x) :: ls) st σ = ev 40 43 (a0 :: some (.int y) :: some (.int (x + 1)) :: ls) st σ := e_iinc 1 k40_40 (by decide) rfl
theorem e40_40n (a0 : Option Value) (x : Int32) (ls : mL) (st : List Value) (σ : mS) : ev 40 40 (a0 :: none :: some (.int x) :: ls) st σ = ev 40 43 (a0 :: none :: some (.int (x + 1)) :: ls) st σ := e_iinc 1 k40_40 (by decide) rfl
theorem e40_40r (a0 : Option Value) (y : Nat) (x : Int32) (ls : mL) (st : List Value) (σ : mS) : ev 40 40 (a0 :: some (.ref y) :: some (.int x) :: ls) st σ = ev 40 43 (a0 :: some (.ref y) :: some (.int (x + 1)) :: ls) st σ := e_iinc 1 k40_40 (by decide) rfl
theorem k40_43 : cod 40 43 = some (.goto (-33), 3, 10, 0, 0, 0) := rfl
theorem e40_43 (ls : mL) (st : List Value) (σ : mS) : ev 40 43 ls st σ = ev 40 10 ls st σ := e_goto k40_43
theorem k40_46 : cod 40 46 = some (.return_, 1, 0, 0, 0, 0) := rfl
theorem e40_46 (ls : mL) (σ : mS) : ev 40 46 ls [] σ = some (none, σ) := e_vret k40_46 rfl
theorem m40 (t : Nat) (x0 : Nat) (σ : mS) : evM 40 [.ref t, .ref x0] σ = ev 40 0 [some (.ref t), some (.ref x0), none] [] σ := rfl
theorem k41_0 : cod 41 0 = some (.aload_n 0, 1, 0, 0, 0, 0) := rfl
theorem e41_0 (x : Nat) (ls : mL) (st : List Value) (σ : mS) : ev 41 0 (some (.ref x) :: ls) st σ = ev 41 1 (some (.ref x) :: ls) (.ref x :: st) σ := e_aload1 k41_0 rfl
theorem k41_1 : cod 41 1 = some (.invokespecial 3, 3, 4, 0, 9, 2) := rfl
theorem e41_1 (x : Nat) (ls : mL) (st : List Value) (σ : mS) (hz : mCat st ≤ 8) : ev 41 1 ls (.ref x :: st) σ = ev 41 4 ls st σ := e_objInit k41_1 hz
theorem k41_4 : cod 41 4 = some (.aload_n 0, 1, 0, 0, 0, 0) := rfl
theorem e41_4 (x : Nat) (ls : mL) (st : List Value) (σ : mS) : ev 41 4 (some (.ref x) :: ls) st σ = ev 41 5 (some (.ref x) :: ls) (.ref x :: st) σ := e_aload1 k41_4 rfl
theorem k41_5 : cod 41 5 = some (.sipush (600), 3, 0, 0, 0, 0) := rfl
theorem e41_5 (ls : mL) (st : List Value) (σ : mS) : ev 41 5 ls st σ = ev 41 8 ls (.int 600 :: st) σ := e_sipush 600 k41_5 (by decide)
theorem k41_8 : cod 41 8 = some (.newarray .int, 2, 0, 0, 0, 0) := rfl
theorem e41_8 (x : Int32) (ls : mL) (st : List Value) (σ : mS) (hx : ¬ (x < 0 ∨ 100000 < x.toNatClampNeg)) : ev 41 8 ls (.int x :: st) σ = ev 41 10 ls (.ref σ.2.1 :: st) (mnew σ (.inl (0, x.toNatClampNeg, fun _ => 0)) x.toNatClampNeg) := e_newa k41_8 hx
theorem k41_10 : cod 41 10 = some (.putfield 9, 3, 4, 0, 2, 3) := rfl
theorem e41_10 (x : Nat) (t : Nat) (ls : mL) (st : List Value) (σ : mS) : ev 41 10 ls (.ref x :: .ref t :: st) σ = pfK (σ.1 t) 4 0 (.ref x) (fun e => ev 41 13 ls st (mset σ t e)) := e_putR k41_10
theorem k41_13 : cod 41 13 = some (.return_, 1, 0, 0, 0, 0) := rfl
theorem e41_13 (ls : mL) (σ : mS) : ev 41 13 ls [] σ = some (none, σ) := e_vret k41_13 rfl
theorem m41 (t : Nat) (σ : mS) : evM 41 [.ref t] σ = ev 41 0 [some (.ref t)] [] σ := rfl
theorem k42_0 : cod 42 0 = some (.aload_n 0, 1, 0, 0, 0, 0) := rfl
theorem e42_0 (x : Nat) (ls : mL) (st : List Value) (σ : mS) : ev 42 0 (some (.ref x) :: ls) st σ = ev 42 1 (some (.ref x) :: ls) (.ref x :: st) σ := e_aload1 k42_0 rfl
theorem k42_1 : cod 42 1 = some (.getfield 15, 3, 4, 1, 0, 0) := rfl
theorem e42_1 (t : Nat) (ls : mL) (st : List Value) (σ : mS) : ev 42 1 ls (.ref t :: st) σ = gfK (σ.1 t) 4 1 (fun v => ev 42 4 ls (v :: st) σ) := e_getf k42_1
theorem k42_4 : cod 42 4 = some (.ifCond .lt (33), 3, 37, 0, 0, 0) := rfl
theorem e42_4 (x : Int32) (ls : mL) (st : List Value) (σ : mS) : ev 42 4 ls (.int x :: st) σ = if x < 0 then ev 42 37 ls st σ else ev 42 7 ls st σ := e_if_lt k42_4
theorem k42_7 : cod 42 7 = some (.aload_n 0, 1, 0, 0, 0, 0) := rfl
theorem e42_7 (x : Nat) (ls : mL) (st : List Value) (σ : mS) : ev 42 7 (some (.ref x) :: ls) st σ = ev 42 8 (some (.ref x) :: ls) (.ref x :: st) σ := e_aload1 k42_7 rfl
theorem k42_8 : cod 42 8 = some (.getfield 15, 3, 4, 1, 0, 0) := rfl
theorem e42_8 (t : Nat) (ls : mL) (st : List Value) (σ : mS) : ev 42 8 ls (.ref t :: st) σ = gfK (σ.1 t) 4 1 (fun v => ev 42 11 ls (v :: st) σ) := e_getf k42_8
theorem k42_11 : cod 42 11 = some (.sipush (600), 3, 0, 0, 0, 0) := rfl
theorem e42_11 (ls : mL) (st : List Value) (σ : mS) : ev 42 11 ls st σ = ev 42 14 ls (.int 600 :: st) σ := e_sipush 600 k42_11 (by decide)
theorem k42_14 : cod 42 14 = some (.if_icmp .ge (23), 3, 37, 0, 0, 0) := rfl
theorem e42_14 (x y : Int32) (ls : mL) (st : List Value) (σ : mS) : ev 42 14 ls (.int y :: .int x :: st) σ = if y ≤ x then ev 42 37 ls st σ else ev 42 17 ls st σ := e_ic_ge k42_14
theorem k42_17 : cod 42 17 = some (.aload_n 0, 1, 0, 0, 0, 0) := rfl
theorem e42_17 (x : Nat) (ls : mL) (st : List Value) (σ : mS) : ev 42 17 (some (.ref x) :: ls) st σ = ev 42 18 (some (.ref x) :: ls) (.ref x :: st) σ := e_aload1 k42_17 rfl
theorem k42_18 : cod 42 18 = some (.getfield 9, 3, 4, 0, 0, 3) := rfl
theorem e42_18 (t : Nat) (ls : mL) (st : List Value) (σ : mS) : ev 42 18 ls (.ref t :: st) σ = gfK (σ.1 t) 4 0 (fun v => ev 42 21 ls (v :: st) σ) := e_getf k42_18
theorem k42_21 : cod 42 21 = some (.aload_n 0, 1, 0, 0, 0, 0) := rfl
theorem e42_21 (x : Nat) (ls : mL) (st : List Value) (σ : mS) : ev 42 21 (some (.ref x) :: ls) st σ = ev 42 22 (some (.ref x) :: ls) (.ref x :: st) σ := e_aload1 k42_21 rfl
theorem k42_22 : cod 42 22 = some (.getfield 15, 3, 4, 1, 0, 0) := rfl
theorem e42_22 (t : Nat) (ls : mL) (st : List Value) (σ : mS) : ev 42 22 ls (.ref t :: st) σ = gfK (σ.1 t) 4 1 (fun v => ev 42 25 ls (v :: st) σ) := e_getf k42_22
theorem k42_25 : cod 42 25 = some (.iload_n 1, 1, 0, 0, 0, 0) := rfl
theorem e42_25 (a0 : Option Value) (x : Int32) (ls : mL) (st : List Value) (σ : mS) : ev 42 25 (a0 :: some (.int x) :: ls) st σ = ev 42 26 (a0 :: some (.int x) :: ls) (.int x :: st) σ := e_iload1 k42_25 rfl
theorem k42_26 : cod 42 26 = some (.iastore, 1, 0, 0, 0, 0) := rfl
theorem e42_26 (j x : Int32) (t : Nat) (ls : mL) (st : List Value) (σ : mS) : ev 42 26 ls (.int x :: .int j :: .ref t :: st) σ = asK (σ.1 t) 0 j x (fun e => ev 42 27 ls st (mset σ t e)) := e_iast k42_26
theorem k42_27 : cod 42 27 = some (.aload_n 0, 1, 0, 0, 0, 0) := rfl
theorem e42_27 (x : Nat) (ls : mL) (st : List Value) (σ : mS) : ev 42 27 (some (.ref x) :: ls) st σ = ev 42 28 (some (.ref x) :: ls) (.ref x :: st) σ := e_aload1 k42_27 rfl
theorem k42_28 : cod 42 28 = some (.dup, 1, 0, 0, 0, 0) := rfl
theorem e42_28i (x : Int32) (ls : mL) (st : List Value) (σ : mS) : ev 42 28 ls (.int x :: st) σ = ev 42 29 ls (.int x :: .int x :: st) σ := e_dupI k42_28
theorem e42_28r (x : Nat) (ls : mL) (st : List Value) (σ : mS) : ev 42 28 ls (.ref x :: st) σ = ev 42 29 ls (.ref x :: .ref x :: st) σ := e_dupR k42_28
theorem k42_29 : cod 42 29 = some (.getfield 15, 3, 4, 1, 0, 0) := rfl
theorem e42_29 (t : Nat) (ls : mL) (st : List Value) (σ : mS) : ev 42 29 ls (.ref t :: st) σ = gfK (σ.1 t) 4 1 (fun v => ev 42 32 ls (v :: st) σ) := e_getf k42_29
theorem k42_32 : cod 42 32 = some (.iconst 1, 1, 0, 0, 0, 0) := rfl
theorem e42_32 (ls : mL) (st : List Value) (σ : mS) : ev 42 32 ls st σ = ev 42 33 ls (.int 1 :: st) σ := e_iconst 1 k42_32 (by decide)
theorem k42_33 : cod 42 33 = some (.iadd, 1, 0, 0, 0, 0) := rfl
theorem e42_33 (x y : Int32) (ls : mL) (st : List Value) (σ : mS) : ev 42 33 ls (.int y :: .int x :: st) σ = ev 42 34 ls (.int (x + y) :: st) σ := e_iadd k42_33
theorem k42_34 : cod 42 34 = some (.putfield 15, 3, 4, 1, 0, 0) := rfl
theorem e42_34 (x : Int32) (t : Nat) (ls : mL) (st : List Value) (σ : mS) : ev 42 34 ls (.int x :: .ref t :: st) σ = pfK (σ.1 t) 4 1 (.int x) (fun e => ev 42 37 ls st (mset σ t e)) := e_putI k42_34
theorem k42_37 : cod 42 37 = some (.return_, 1, 0, 0, 0, 0) := rfl
theorem e42_37 (ls : mL) (σ : mS) : ev 42 37 ls [] σ = some (none, σ) := e_vret k42_37 rfl
theorem m42 (t : Nat) (x0 : Int32) (σ : mS) : evM 42 [.ref t, .int x0] σ = ev 42 0 [some (.ref t), some (.int x0)] [] σ := rfl
theorem k43_0 : cod 43 0 = some (.iload_n 1, 1, 0, 0, 0, 0) := rfl
theorem e43_0 (a0 : Option Value) (x : Int32) (ls : mL) (st : List Value) (σ : mS) : ev 43 0 (a0 :: some (.int x) :: ls) st σ = ev 43 1 (a0 :: some (.int x) :: ls) (.int x :: st) σ := e_iload1 k43_0 rfl
theorem k43_1 : cod 43 1 = some (.ifCond .lt (27), 3, 28, 0, 0, 0) := rfl
theorem e43_1 (x : Int32) (ls : mL) (st : List Value) (σ : mS) : ev 43 1 ls (.int x :: st) σ = if x < 0 then ev 43 28 ls st σ else ev 43 4 ls st σ := e_if_lt k43_1
theorem k43_4 : cod 43 4 = some (.iload_n 1, 1, 0, 0, 0, 0) := rfl
theorem e43_4 (a0 : Option Value) (x : Int32) (ls : mL) (st : List Value) (σ : mS) : ev 43 4 (a0 :: some (.int x) :: ls) st σ = ev 43 5 (a0 :: some (.int x) :: ls) (.int x :: st) σ := e_iload1 k43_4 rfl
theorem k43_5 : cod 43 5 = some (.aload_n 0, 1, 0, 0, 0, 0) := rfl
theorem e43_5 (x : Nat) (ls : mL) (st : List Value) (σ : mS) : ev 43 5 (some (.ref x) :: ls) st σ = ev 43 6 (some (.ref x) :: ls) (.ref x :: st) σ := e_aload1 k43_5 rfl
theorem k43_6 : cod 43 6 = some (.getfield 15, 3, 4, 1, 0, 0) := rfl
theorem e43_6 (t : Nat) (ls : mL) (st : List Value) (σ : mS) : ev 43 6 ls (.ref t :: st) σ = gfK (σ.1 t) 4 1 (fun v => ev 43 9 ls (v :: st) σ) := e_getf k43_6
theorem k43_9 : cod 43 9 = some (.if_icmp .ge (19), 3, 28, 0, 0, 0) := rfl
theorem e43_9 (x y : Int32) (ls : mL) (st : List Value) (σ : mS) : ev 43 9 ls (.int y :: .int x :: st) σ = if y ≤ x then ev 43 28 ls st σ else ev 43 12 ls st σ := e_ic_ge k43_9
theorem k43_12 : cod 43 12 = some (.iload_n 1, 1, 0, 0, 0, 0) := rfl
theorem e43_12 (a0 : Option Value) (x : Int32) (ls : mL) (st : List Value) (σ : mS) : ev 43 12 (a0 :: some (.int x) :: ls) st σ = ev 43 13 (a0 :: some (.int x) :: ls) (.int x :: st) σ := e_iload1 k43_12 rfl
theorem k43_13 : cod 43 13 = some (.sipush (600), 3, 0, 0, 0, 0) := rfl
theorem e43_13 (ls : mL) (st : List Value) (σ : mS) : ev 43 13 ls st σ = ev 43 16 ls (.int 600 :: st) σ := e_sipush 600 k43_13 (by decide)
theorem k43_16 : cod 43 16 = some (.if_icmp .ge (12), 3, 28, 0, 0, 0) := rfl
theorem e43_16 (x y : Int32) (ls : mL) (st : List Value) (σ : mS) : ev 43 16 ls (.int y :: .int x :: st) σ = if y ≤ x then ev 43 28 ls st σ else ev 43 19 ls st σ := e_ic_ge k43_16
theorem k43_19 : cod 43 19 = some (.aload_n 0, 1, 0, 0, 0, 0) := rfl
theorem e43_19 (x : Nat) (ls : mL) (st : List Value) (σ : mS) : ev 43 19 (some (.ref x) :: ls) st σ = ev 43 20 (some (.ref x) :: ls) (.ref x :: st) σ := e_aload1 k43_19 rfl
theorem k43_20 : cod 43 20 = some (.getfield 9, 3, 4, 0, 0, 3) := rfl
theorem e43_20 (t : Nat) (ls : mL) (st : List Value) (σ : mS) : ev 43 20 ls (.ref t :: st) σ = gfK (σ.1 t) 4 0 (fun v => ev 43 23 ls (v :: st) σ) := e_getf k43_20
theorem k43_23 : cod 43 23 = some (.iload_n 1, 1, 0, 0, 0, 0) := rfl
theorem e43_23 (a0 : Option Value) (x : Int32) (ls : mL) (st : List Value) (σ : mS) : ev 43 23 (a0 :: some (.int x) :: ls) st σ = ev 43 24 (a0 :: some (.int x) :: ls) (.int x :: st) σ := e_iload1 k43_23 rfl
theorem k43_24 : cod 43 24 = some (.iaload, 1, 0, 0, 0, 0) := rfl
theorem e43_24 (j : Int32) (t : Nat) (ls : mL) (st : List Value) (σ : mS) : ev 43 24 ls (.int j :: .ref t :: st) σ = alK (σ.1 t) 0 j (fun v => ev 43 25 ls (.int v :: st) σ) := e_iald k43_24
theorem k43_25 : cod 43 25 = some (.goto (4), 3, 29, 0, 0, 0) := rfl
theorem e43_25 (ls : mL) (st : List Value) (σ : mS) : ev 43 25 ls st σ = ev 43 29 ls st σ := e_goto k43_25
theorem k43_28 : cod 43 28 = some (.iconst (-1), 1, 0, 0, 0, 0) := rfl
theorem e43_28 (ls : mL) (st : List Value) (σ : mS) : ev 43 28 ls st σ = ev 43 29 ls (.int (-1) :: st) σ := e_iconst (-1) k43_28 (by decide)
theorem k43_29 : cod 43 29 = some (.ireturn, 1, 0, 0, 0, 0) := rfl
theorem e43_29 (x : Int32) (ls : mL) (σ : mS) : ev 43 29 ls [.int x] σ = some (some (.int x), σ) := e_iret k43_29 rfl
theorem m43 (t : Nat) (x0 : Int32) (σ : mS) : evM 43 [.ref t, .int x0] σ = ev 43 0 [some (.ref t), some (.int x0)] [] σ := rfl
theorem k44_0 : cod 44 0 = some (.aload_n 0, 1, 0, 0, 0, 0) := rfl
theorem e44_0 (x : Nat) (ls : mL) (st : List Value) (σ : mS) : ev 44 0 (some (.ref x) :: ls) st σ = ev 44 1 (some (.ref x) :: ls) (.ref x :: st) σ := e_aload1 k44_0 rfl
theorem k44_1 : cod 44 1 = some (.invokespecial 3, 3, 5, 0, 9, 2) := rfl
theorem e44_1 (x : Nat) (ls : mL) (st : List Value) (σ : mS) (hz : mCat st ≤ 8) : ev 44 1 ls (.ref x :: st) σ = ev 44 4 ls st σ := e_objInit k44_1 hz
theorem k44_4 : cod 44 4 = some (.aload_n 0, 1, 0, 0, 0, 0) := rfl
theorem e44_4 (x : Nat) (ls : mL) (st : List Value) (σ : mS) : ev 44 4 (some (.ref x) :: ls) st σ = ev 44 5 (some (.ref x) :: ls) (.ref x :: st) σ := e_aload1 k44_4 rfl
theorem k44_5 : cod 44 5 = some (.sipush (601), 3, 0, 0, 0, 0) := rfl
theorem e44_5 (ls : mL) (st : List Value) (σ : mS) : ev 44 5 ls st σ = ev 44 8 ls (.int 601 :: st) σ := e_sipush 601 k44_5 (by decide)
theorem k44_8 : cod 44 8 = some (.newarray .int, 2, 0, 0, 0, 0) := rfl
theorem e44_8 (x : Int32) (ls : mL) (st : List Value) (σ : mS) (hx : ¬ (x < 0 ∨ 100000 < x.toNatClampNeg)) : ev 44 8 ls (.int x :: st) σ = ev 44 10 ls (.ref σ.2.1 :: st) (mnew σ (.inl (0, x.toNatClampNeg, fun _ => 0)) x.toNatClampNeg) := e_newa k44_8 hx
theorem k44_10 : cod 44 10 = some (.putfield 9, 3, 5, 0, 2, 3) := rfl
theorem e44_10 (x : Nat) (t : Nat) (ls : mL) (st : List Value) (σ : mS) : ev 44 10 ls (.ref x :: .ref t :: st) σ = pfK (σ.1 t) 5 0 (.ref x) (fun e => ev 44 13 ls st (mset σ t e)) := e_putR k44_10
theorem k44_13 : cod 44 13 = some (.aload_n 0, 1, 0, 0, 0, 0) := rfl
theorem e44_13 (x : Nat) (ls : mL) (st : List Value) (σ : mS) : ev 44 13 (some (.ref x) :: ls) st σ = ev 44 14 (some (.ref x) :: ls) (.ref x :: st) σ := e_aload1 k44_13 rfl
theorem k44_14 : cod 44 14 = some (.sipush (601), 3, 0, 0, 0, 0) := rfl
theorem e44_14 (ls : mL) (st : List Value) (σ : mS) : ev 44 14 ls st σ = ev 44 17 ls (.int 601 :: st) σ := e_sipush 601 k44_14 (by decide)
theorem k44_17 : cod 44 17 = some (.newarray .int, 2, 0, 0, 0, 0) := rfl
theorem e44_17 (x : Int32) (ls : mL) (st : List Value) (σ : mS) (hx : ¬ (x < 0 ∨ 100000 < x.toNatClampNeg)) : ev 44 17 ls (.int x :: st) σ = ev 44 19 ls (.ref σ.2.1 :: st) (mnew σ (.inl (0, x.toNatClampNeg, fun _ => 0)) x.toNatClampNeg) := e_newa k44_17 hx
theorem k44_19 : cod 44 19 = some (.putfield 15, 3, 5, 1, 2, 3) := rfl
theorem e44_19 (x : Nat) (t : Nat) (ls : mL) (st : List Value) (σ : mS) : ev 44 19 ls (.ref x :: .ref t :: st) σ = pfK (σ.1 t) 5 1 (.ref x) (fun e => ev 44 22 ls st (mset σ t e)) := e_putR k44_19
theorem k44_22 : cod 44 22 = some (.aload_n 0, 1, 0, 0, 0, 0) := rfl
theorem e44_22 (x : Nat) (ls : mL) (st : List Value) (σ : mS) : ev 44 22 (some (.ref x) :: ls) st σ = ev 44 23 (some (.ref x) :: ls) (.ref x :: st) σ := e_aload1 k44_22 rfl
theorem k44_23 : cod 44 23 = some (.sipush (601), 3, 0, 0, 0, 0) := rfl
theorem e44_23 (ls : mL) (st : List Value) (σ : mS) : ev 44 23 ls st σ = ev 44 26 ls (.int 601 :: st) σ := e_sipush 601 k44_23 (by decide)
theorem k44_26 : cod 44 26 = some (.newarray .int, 2, 0, 0, 0, 0) := rfl
theorem e44_26 (x : Int32) (ls : mL) (st : List Value) (σ : mS) (hx : ¬ (x < 0 ∨ 100000 < x.toNatClampNeg)) : ev 44 26 ls (.int x :: st) σ = ev 44 28 ls (.ref σ.2.1 :: st) (mnew σ (.inl (0, x.toNatClampNeg, fun _ => 0)) x.toNatClampNeg) := e_newa k44_26 hx
theorem k44_28 : cod 44 28 = some (.putfield 18, 3, 5, 2, 2, 3) := rfl
theorem e44_28 (x : Nat) (t : Nat) (ls : mL) (st : List Value) (σ : mS) : ev 44 28 ls (.ref x :: .ref t :: st) σ = pfK (σ.1 t) 5 2 (.ref x) (fun e => ev 44 31 ls st (mset σ t e)) := e_putR k44_28
theorem k44_31 : cod 44 31 = some (.return_, 1, 0, 0, 0, 0) := rfl
theorem e44_31 (ls : mL) (σ : mS) : ev 44 31 ls [] σ = some (none, σ) := e_vret k44_31 rfl
theorem m44 (t : Nat) (σ : mS) : evM 44 [.ref t] σ = ev 44 0 [some (.ref t)] [] σ := rfl
theorem k45_0 : cod 45 0 = some (.aload_n 0, 1, 0, 0, 0, 0) := rfl
theorem e45_0 (x : Nat) (ls : mL) (st : List Value) (σ : mS) : ev 45 0 (some (.ref x) :: ls) st σ = ev 45 1 (some (.ref x) :: ls) (.ref x :: st) σ := e_aload1 k45_0 rfl
theorem k45_1 : cod 45 1 = some (.iconst 0, 1, 0, 0, 0, 0) := rfl
theorem e45_1 (ls : mL) (st : List Value) (σ : mS) : ev 45 1 ls st σ = ev 45 2 ls (.int 0 :: st) σ := e_iconst 0 k45_1 (by decide)
theorem k45_2 : cod 45 2 = some (.putfield 21, 3, 5, 3, 0, 0) := rfl
theorem e45_2 (x : Int32) (t : Nat) (ls : mL) (st : List Value) (σ : mS) : ev 45 2 ls (.int x :: .ref t :: st) σ = pfK (σ.1 t) 5 3 (.int x) (fun e => ev 45 5 ls st (mset σ t e)) := e_putI k45_2
theorem k45_5 : cod 45 5 = some (.aload_n 0, 1, 0, 0, 0, 0) := rfl
theorem e45_5 (x : Nat) (ls : mL) (st : List Value) (σ : mS) : ev 45 5 (some (.ref x) :: ls) st σ = ev 45 6 (some (.ref x) :: ls) (.ref x :: st) σ := e_aload1 k45_5 rfl
theorem k45_6 : cod 45 6 = some (.iconst 0, 1, 0, 0, 0, 0) := rfl
theorem e45_6 (ls : mL) (st : List Value) (σ : mS) : ev 45 6 ls st σ = ev 45 7 ls (.int 0 :: st) σ := e_iconst 0 k45_6 (by decide)
theorem k45_7 : cod 45 7 = some (.putfield 25, 3, 5, 4, 0, 0) := rfl
theorem e45_7 (x : Int32) (t : Nat) (ls : mL) (st : List Value) (σ : mS) : ev 45 7 ls (.int x :: .ref t :: st) σ = pfK (σ.1 t) 5 4 (.int x) (fun e => ev 45 10 ls st (mset σ t e)) := e_putI k45_7
theorem k45_10 : cod 45 10 = some (.iconst 0, 1, 0, 0, 0, 0) := rfl
theorem e45_10 (ls : mL) (st : List Value) (σ : mS) : ev 45 10 ls st σ = ev 45 11 ls (.int 0 :: st) σ := e_iconst 0 k45_10 (by decide)
theorem k45_11 : cod 45 11 = some (.istore_n 2, 1, 0, 0, 0, 0) := rfl
theorem e45_11i (a0 : Option Value) (y : Int32) (o : Option Value) (x : Int32) (ls : mL) (st : List Value) (σ : mS) : ev 45 11 (a0 :: some (.int y) :: o :: ls) (.int x :: st) σ = ev 45 12 (a0 :: some (.int y) :: some (.int x) :: ls) st σ := e_istore1 k45_11 (Nat.le_add_left 3 ls.length)
theorem e45_11n (a0 : Option Value) (o : Option Value) (x : Int32) (ls : mL) (st : List Value) (σ : mS) : ev 45 11 (a0 :: none :: o :: ls) (.int x :: st) σ = ev 45 12 (a0 :: none :: some (.int x) :: ls) st σ := e_istore1 k45_11 (Nat.le_add_left 3 ls.length)
theorem e45_11r (a0 : Option Value) (y : Nat) (o : Option Value) (x : Int32) (ls : mL) (st : List Value) (σ : mS) : ev 45 11 (a0 :: some (.ref y) :: o :: ls) (.int x :: st) σ = ev 45 12 (a0 :: some (.ref y) :: some (.int x) :: ls) st σ := e_istore1 k45_11 (Nat.le_add_left 3 ls.length)
theorem k45_12 : cod 45 12 = some (.iload_n 2, 1, 0, 0, 0, 0) := rfl
theorem e45_12 (a0 a1 : Option Value) (x : Int32) (ls : mL) (st : List Value) (σ : mS) : ev 45 12 (a0 :: a1 :: some (.int x) :: ls) st σ = ev 45 13 (a0 :: a1 :: some (.int x) :: ls) (.int x :: st) σ := e_iload1 k45_12 rfl
theorem k45_13 : cod 45 13 = some (.aload_n 1, 1, 0, 0, 0, 0) := rfl
theorem e45_13 (a0 : Option Value) (x : Nat) (ls : mL) (st : List Value) (σ : mS) : ev 45 13 (a0 :: some (.ref x) :: ls) st σ = ev 45 14 (a0 :: some (.ref x) :: ls) (.ref x :: st) σ := e_aload1 k45_13 rfl
theorem k45_14 : cod 45 14 = some (.getfield 28, 3, 4, 1, 1, 0) := rfl
theorem e45_14 (t : Nat) (ls : mL) (st : List Value) (σ : mS) : ev 45 14 ls (.ref t :: st) σ = gfK (σ.1 t) 4 1 (fun v => ev 45 17 ls (v :: st) σ) := e_getf k45_14
theorem k45_17 : cod 45 17 = some (.if_icmp .ge (102), 3, 119, 0, 0, 0) := rfl
theorem e45_17 (x y : Int32) (ls : mL) (st : List Value) (σ : mS) : ev 45 17 ls (.int y :: .int x :: st) σ = if y ≤ x then ev 45 119 ls st σ else ev 45 20 ls st σ := e_ic_ge k45_17
theorem k45_20 : cod 45 20 = some (.aload_n 1, 1, 0, 0, 0, 0) := rfl
theorem e45_20 (a0 : Option Value) (x : Nat) (ls : mL) (st : List Value) (σ : mS) : ev 45 20 (a0 :: some (.ref x) :: ls) st σ = ev 45 21 (a0 :: some (.ref x) :: ls) (.ref x :: st) σ := e_aload1 k45_20 rfl
theorem k45_21 : cod 45 21 = some (.iload_n 2, 1, 0, 0, 0, 0) := rfl
theorem e45_21 (a0 a1 : Option Value) (x : Int32) (ls : mL) (st : List Value) (σ : mS) : ev 45 21 (a0 :: a1 :: some (.int x) :: ls) st σ = ev 45 22 (a0 :: a1 :: some (.int x) :: ls) (.int x :: st) σ := e_iload1 k45_21 rfl
theorem k45_22 : cod 45 22 = some (.invokestatic 33, 3, 46, 2, 0, 0) := rfl
theorem e45_22 (x0 : Nat) (x1 : Int32) (ls : mL) (st : List Value) (σ : mS) (hm : mCat st ≤ 8) : ev 45 22 ls (.int x1 :: .ref x0 :: st) σ = (evM 46 [.ref x0, .int x1] σ).bind fun z => ev 45 25 ls (z.1.toList ++ st) z.2 := e_callS k45_22 (by decide) rfl ⟨hm, Nat.le_of_ble_eq_true rfl⟩
theorem k45_25 : cod 45 25 = some (.iload_n 2, 1, 0, 0, 0, 0) := rfl
theorem e45_25 (a0 a1 : Option Value) (x : Int32) (ls : mL) (st : List Value) (σ : mS) : ev 45 25 (a0 :: a1 :: some (.int x) :: ls) st σ = ev 45 26 (a0 :: a1 :: some (.int x) :: ls) (.int x :: st) σ := e_iload1 k45_25 rfl
theorem k45_26 : cod 45 26 = some (.iconst 1, 1, 0, 0, 0, 0) := rfl
theorem e45_26 (ls : mL) (st : List Value) (σ : mS) : ev 45 26 ls st σ = ev 45 27 ls (.int 1 :: st) σ := e_iconst 1 k45_26 (by decide)
theorem k45_27 : cod 45 27 = some (.iadd, 1, 0, 0, 0, 0) := rfl
theorem e45_27 (x y : Int32) (ls : mL) (st : List Value) (σ : mS) : ev 45 27 ls (.int y :: .int x :: st) σ = ev 45 28 ls (.int (x + y) :: st) σ := e_iadd k45_27
theorem k45_28 : cod 45 28 = some (.invokestatic 37, 3, 0, 0, 4, 1) := rfl
theorem e45_28 (x y : Int32) (ls : mL) (st : List Value) (σ : mS) (hz : mCat st ≤ 8) : ev 45 28 ls (.int y :: .int x :: st) σ = ev 45 31 ls (.int (if x < y then y else x) :: st) σ := e_max k45_28 hz
theorem k45_31 : cod 45 31 = some (.istore_n 3, 1, 0, 0, 0, 0) := rfl
theorem e45_31i (a0 a1 : Option Value) (y : Int32) (o : Option Value) (x : Int32) (ls : mL) (st : List Value) (σ : mS) : ev 45 31 (a0 :: a1 :: some (.int y) :: o :: ls) (.int x :: st) σ = ev 45 32 (a0 :: a1 :: some (.int y) :: some (.int x) :: ls) st σ := e_istore1 k45_31 (Nat.le_add_left 4 ls.length)
theorem e45_31n (a0 a1 : Option Value) (o : Option Value) (x : Int32) (ls : mL) (st : List Value) (σ : mS) : ev 45 31 (a0 :: a1 :: none :: o :: ls) (.int x :: st) σ = ev 45 32 (a0 :: a1 :: none :: some (.int x) :: ls) st σ := e_istore1 k45_31 (Nat.le_add_left 4 ls.length)
theorem e45_31r (a0 a1 : Option Value) (y : Nat) (o : Option Value) (x : Int32) (ls : mL) (st : List Value) (σ : mS) : ev 45 31 (a0 :: a1 :: some (.ref y) :: o :: ls) (.int x :: st) σ = ev 45 32 (a0 :: a1 :: some (.ref y) :: some (.int x) :: ls) st σ := e_istore1 k45_31 (Nat.le_add_left 4 ls.length)
theorem k45_32 : cod 45 32 = some (.aload_n 1, 1, 0, 0, 0, 0) := rfl
theorem e45_32 (a0 : Option Value) (x : Nat) (ls : mL) (st : List Value) (σ : mS) : ev 45 32 (a0 :: some (.ref x) :: ls) st σ = ev 45 33 (a0 :: some (.ref x) :: ls) (.ref x :: st) σ := e_aload1 k45_32 rfl
theorem k45_33 : cod 45 33 = some (.iload_n 2, 1, 0, 0, 0, 0) := rfl
theorem e45_33 (a0 a1 : Option Value) (x : Int32) (ls : mL) (st : List Value) (σ : mS) : ev 45 33 (a0 :: a1 :: some (.int x) :: ls) st σ = ev 45 34 (a0 :: a1 :: some (.int x) :: ls) (.int x :: st) σ := e_iload1 k45_33 rfl
theorem k45_34 : cod 45 34 = some (.invokevirtual 43, 3, 43, 1, 0, 4) := rfl
theorem e45_34 (t : Nat) (x0 : Int32) (ls : mL) (st : List Value) (σ : mS) (hm : mCat st ≤ 8) : ev 45 34 ls (.int x0 :: .ref t :: st) σ = isC (σ.1 t) 4 ((evM 43 [.ref t, .int x0] σ).bind fun z => ev 45 37 ls (z.1.toList ++ st) z.2) := e_callVK k45_34 (by decide) rfl ⟨hm, Nat.le_of_ble_eq_true rfl⟩
theorem k45_37 : cod 45 37 = some (.istore 4, 2, 0, 0, 0, 0) := rfl
theorem e45_37i (a0 a1 a2 : Option Value) (y : Int32) (o : Option Value) (x : Int32) (ls : mL) (st : List Value) (σ : mS) : ev 45 37 (a0 :: a1 :: a2 :: some (.int y) :: o :: ls) (.int x :: st) σ = ev 45 39 (a0 :: a1 :: a2 :: some (.int y) :: some (.int x) :: ls) st σ := e_istore0 k45_37 (Nat.le_add_left 5 ls.length)
theorem e45_37n (a0 a1 a2 : Option Value) (o : Option Value) (x : Int32) (ls : mL) (st : List Value) (σ : mS) : ev 45 37 (a0 :: a1 :: a2 :: none :: o :: ls) (.int x :: st) σ = ev 45 39 (a0 :: a1 :: a2 :: none :: some (.int x) :: ls) st σ := e_istore0 k45_37 (Nat.le_add_left 5 ls.length)
theorem e45_37r (a0 a1 a2 : Option Value) (y : Nat) (o : Option Value) (x : Int32) (ls : mL) (st : List Value) (σ : mS) : ev 45 37 (a0 :: a1 :: a2 :: some (.ref y) :: o :: ls) (.int x :: st) σ = ev 45 39 (a0 :: a1 :: a2 :: some (.ref y) :: some (.int x) :: ls) st σ := e_istore0 k45_37 (Nat.le_add_left 5 ls.length)
theorem k45_39 : cod 45 39 = some (.iload 4, 2, 0, 0, 0, 0) := rfl
theorem e45_39 (a0 a1 a2 a3 : Option Value) (x : Int32) (ls : mL) (st : List Value) (σ : mS) : ev 45 39 (a0 :: a1 :: a2 :: a3 :: some (.int x) :: ls) st σ = ev 45 41 (a0 :: a1 :: a2 :: a3 :: some (.int x) :: ls) (.int x :: st) σ := e_iload0 k45_39 rfl
theorem k45_41 : cod 45 41 = some (.invokestatic 47, 3, 47, 1, 0, 0) := rfl
theorem e45_41 (x0 : Int32) (ls : mL) (st : List Value) (σ : mS) (hm : mCat st ≤ 8) : ev 45 41 ls (.int x0 :: st) σ = (evM 47 [.int x0] σ).bind fun z => ev 45 44 ls (z.1.toList ++ st) z.2 := e_callS k45_41 (by decide) rfl ⟨hm, Nat.le_of_ble_eq_true rfl⟩
theorem k45_44 : cod 45 44 = some (.ifCond .eq (13), 3, 57, 0, 0, 0) := rfl
theorem e45_44 (x : Int32) (ls : mL) (st : List Value) (σ : mS) : ev 45 44 ls (.int x :: st) σ = if x = 0 then ev 45 57 ls st σ else ev 45 47 ls st σ := e_if_eq k45_44
theorem k45_47 : cod 45 47 = some (.aload_n 0, 1, 0, 0, 0, 0) := rfl
theorem e45_47 (x : Nat) (ls : mL) (st : List Value) (σ : mS) : ev 45 47 (some (.ref x) :: ls) st σ = ev 45 48 (some (.ref x) :: ls) (.ref x :: st) σ := e_aload1 k45_47 rfl
theorem k45_48 : cod 45 48 = some (.aload_n 1, 1, 0, 0, 0, 0) := rfl
theorem e45_48 (a0 : Option Value) (x : Nat) (ls : mL) (st : List Value) (σ : mS) : ev 45 48 (a0 :: some (.ref x) :: ls) st σ = ev 45 49 (a0 :: some (.ref x) :: ls) (.ref x :: st) σ := e_aload1 k45_48 rfl
theorem k45_49 : cod 45 49 = some (.iload_n 2, 1, 0, 0, 0, 0) := rfl
theorem e45_49 (a0 a1 : Option Value) (x : Int32) (ls : mL) (st : List Value) (σ : mS) : ev 45 49 (a0 :: a1 :: some (.int x) :: ls) st σ = ev 45 50 (a0 :: a1 :: some (.int x) :: ls) (.int x :: st) σ := e_iload1 k45_49 rfl
theorem k45_50 : cod 45 50 = some (.iload_n 3, 1, 0, 0, 0, 0) := rfl
theorem e45_50 (a0 a1 a2 : Option Value) (x : Int32) (ls : mL) (st : List Value) (σ : mS) : ev 45 50 (a0 :: a1 :: a2 :: some (.int x) :: ls) st σ = ev 45 51 (a0 :: a1 :: a2 :: some (.int x) :: ls) (.int x :: st) σ := e_iload1 k45_50 rfl
theorem k45_51 : cod 45 51 = some (.invokevirtual 51, 3, 49, 3, 0, 5) := rfl
theorem e45_51 (t : Nat) (x0 : Nat) (x1 : Int32) (x2 : Int32) (ls : mL) (st : List Value) (σ : mS) (hm : mCat st ≤ 8) : ev 45 51 ls (.int x2 :: .int x1 :: .ref x0 :: .ref t :: st) σ = isC (σ.1 t) 5 ((evM 49 [.ref t, .ref x0, .int x1, .int x2] σ).bind fun z => ev 45 54 ls (z.1.toList ++ st) z.2) := e_callVK k45_51 (by decide) rfl ⟨hm, Nat.le_of_ble_eq_true rfl⟩
theorem k45_54 : cod 45 54 = some (.goto (60), 3, 114, 0, 0, 0) := rfl
theorem e45_54 (ls : mL) (st : List Value) (σ : mS) : ev 45 54 ls st σ = ev 45 114 ls st σ := e_goto k45_54
theorem k45_57 : cod 45 57 = some (.iload 4, 2, 0, 0, 0, 0) := rfl
theorem e45_57 (a0 a1 a2 a3 : Option Value) (x : Int32) (ls : mL) (st : List Value) (σ : mS) : ev 45 57 (a0 :: a1 :: a2 :: a3 :: some (.int x) :: ls) st σ = ev 45 59 (a0 :: a1 :: a2 :: a3 :: some (.int x) :: ls) (.int x :: st) σ := e_iload0 k45_57 rfl
theorem k45_59 : cod 45 59 = some (.invokestatic 55, 3, 48, 1, 0, 0) := rfl
theorem e45_59 (x0 : Int32) (ls : mL) (st : List Value) (σ : mS) (hm : mCat st ≤ 8) : ev 45 59 ls (.int x0 :: st) σ = (evM 48 [.int x0] σ).bind fun z => ev 45 62 ls (z.1.toList ++ st) z.2 := e_callS k45_59 (by decide) rfl ⟨hm, Nat.le_of_ble_eq_true rfl⟩
theorem k45_62 : cod 45 62 = some (.ifCond .eq (13), 3, 75, 0, 0, 0) := rfl
theorem e45_62 (x : Int32) (ls : mL) (st : List Value) (σ : mS) : ev 45 62 ls (.int x :: st) σ = if x = 0 then ev 45 75 ls st σ else ev 45 65 ls st σ := e_if_eq k45_62
theorem k45_65 : cod 45 65 = some (.aload_n 0, 1, 0, 0, 0, 0) := rfl
theorem e45_65 (x : Nat) (ls : mL) (st : List Value) (σ : mS) : ev 45 65 (some (.ref x) :: ls) st σ = ev 45 66 (some (.ref x) :: ls) (.ref x :: st) σ := e_aload1 k45_65 rfl
theorem k45_66 : cod 45 66 = some (.aload_n 1, 1, 0, 0, 0, 0) := rfl
theorem e45_66 (a0 : Option Value) (x : Nat) (ls : mL) (st : List Value) (σ : mS) : ev 45 66 (a0 :: some (.ref x) :: ls) st σ = ev 45 67 (a0 :: some (.ref x) :: ls) (.ref x :: st) σ := e_aload1 k45_66 rfl
theorem k45_67 : cod 45 67 = some (.iload_n 2, 1, 0, 0, 0, 0) := rfl
theorem e45_67 (a0 a1 : Option Value) (x : Int32) (ls : mL) (st : List Value) (σ : mS) : ev 45 67 (a0 :: a1 :: some (.int x) :: ls) st σ = ev 45 68 (a0 :: a1 :: some (.int x) :: ls) (.int x :: st) σ := e_iload1 k45_67 rfl
theorem k45_68 : cod 45 68 = some (.iload_n 3, 1, 0, 0, 0, 0) := rfl
theorem e45_68 (a0 a1 a2 : Option Value) (x : Int32) (ls : mL) (st : List Value) (σ : mS) : ev 45 68 (a0 :: a1 :: a2 :: some (.int x) :: ls) st σ = ev 45 69 (a0 :: a1 :: a2 :: some (.int x) :: ls) (.int x :: st) σ := e_iload1 k45_68 rfl
theorem k45_69 : cod 45 69 = some (.invokevirtual 58, 3, 51, 3, 0, 5) := rfl
theorem e45_69 (t : Nat) (x0 : Nat) (x1 : Int32) (x2 : Int32) (ls : mL) (st : List Value) (σ : mS) (hm : mCat st ≤ 8) : ev 45 69 ls (.int x2 :: .int x1 :: .ref x0 :: .ref t :: st) σ = isC (σ.1 t) 5 ((evM 51 [.ref t, .ref x0, .int x1, .int x2] σ).bind fun z => ev 45 72 ls (z.1.toList ++ st) z.2) := e_callVK k45_69 (by decide) rfl ⟨hm, Nat.le_of_ble_eq_true rfl⟩
theorem k45_72 : cod 45 72 = some (.goto (42), 3, 114, 0, 0, 0) := rfl
theorem e45_72 (ls : mL) (st : List Value) (σ : mS) : ev 45 72 ls st σ = ev 45 114 ls st σ := e_goto k45_72
theorem k45_75 : cod 45 75 = some (.iload 4, 2, 0, 0, 0, 0) := rfl
theorem e45_75 (a0 a1 a2 a3 : Option Value) (x : Int32) (ls : mL) (st : List Value) (σ : mS) : ev 45 75 (a0 :: a1 :: a2 :: a3 :: some (.int x) :: ls) st σ = ev 45 77 (a0 :: a1 :: a2 :: a3 :: some (.int x) :: ls) (.int x :: st) σ := e_iload0 k45_75 rfl
theorem k45_77 : cod 45 77 = some (.bipush (32), 2, 0, 0, 0, 0) := rfl
theorem e45_77 (ls : mL) (st : List Value) (σ : mS) : ev 45 77 ls st σ = ev 45 79 ls (.int 32 :: st) σ := e_bipush 32 k45_77 (by decide)
theorem k45_79 : cod 45 79 = some (.if_icmp .eq (35), 3, 114, 0, 0, 0) := rfl
theorem e45_79 (x y : Int32) (ls : mL) (st : List Value) (σ : mS) : ev 45 79 ls (.int y :: .int x :: st) σ = if x = y then ev 45 114 ls st σ else ev 45 82 ls st σ := e_ic_eq k45_79
theorem k45_82 : cod 45 82 = some (.aload_n 0, 1, 0, 0, 0, 0) := rfl
theorem e45_82 (x : Nat) (ls : mL) (st : List Value) (σ : mS) : ev 45 82 (some (.ref x) :: ls) st σ = ev 45 83 (some (.ref x) :: ls) (.ref x :: st) σ := e_aload1 k45_82 rfl
theorem k45_83 : cod 45 83 = some (.iload 4, 2, 0, 0, 0, 0) := rfl
theorem e45_83 (a0 a1 a2 a3 : Option Value) (x : Int32) (ls : mL) (st : List Value) (σ : mS) : ev 45 83 (a0 :: a1 :: a2 :: a3 :: some (.int x) :: ls) st σ = ev 45 85 (a0 :: a1 :: a2 :: a3 :: some (.int x) :: ls) (.int x :: st) σ := e_iload0 k45_83 rfl
theorem k45_85 : cod 45 85 = some (.bipush (62), 2, 0, 0, 0, 0) := rfl
theorem e45_85 (ls : mL) (st : List Value) (σ : mS) : ev 45 85 ls st σ = ev 45 87 ls (.int 62 :: st) σ := e_bipush 62 k45_85 (by decide)
theorem k45_87 : cod 45 87 = some (.if_icmp .ne (8), 3, 95, 0, 0, 0) := rfl
theorem e45_87 (x y : Int32) (ls : mL) (st : List Value) (σ : mS) : ev 45 87 ls (.int y :: .int x :: st) σ = if x = y then ev 45 90 ls st σ else ev 45 95 ls st σ := e_ic_ne k45_87
theorem k45_90 : cod 45 90 = some (.bipush (7), 2, 0, 0, 0, 0) := rfl
theorem e45_90 (ls : mL) (st : List Value) (σ : mS) : ev 45 90 ls st σ = ev 45 92 ls (.int 7 :: st) σ := e_bipush 7 k45_90 (by decide)
theorem k45_92 : cod 45 92 = some (.goto (17), 3, 109, 0, 0, 0) := rfl
theorem e45_92 (ls : mL) (st : List Value) (σ : mS) : ev 45 92 ls st σ = ev 45 109 ls st σ := e_goto k45_92
theorem k45_95 : cod 45 95 = some (.iload 4, 2, 0, 0, 0, 0) := rfl
theorem e45_95 (a0 a1 a2 a3 : Option Value) (x : Int32) (ls : mL) (st : List Value) (σ : mS) : ev 45 95 (a0 :: a1 :: a2 :: a3 :: some (.int x) :: ls) st σ = ev 45 97 (a0 :: a1 :: a2 :: a3 :: some (.int x) :: ls) (.int x :: st) σ := e_iload0 k45_95 rfl
theorem k45_97 : cod 45 97 = some (.bipush (59), 2, 0, 0, 0, 0) := rfl
theorem e45_97 (ls : mL) (st : List Value) (σ : mS) : ev 45 97 ls st σ = ev 45 99 ls (.int 59 :: st) σ := e_bipush 59 k45_97 (by decide)
theorem k45_99 : cod 45 99 = some (.if_icmp .ne (8), 3, 107, 0, 0, 0) := rfl
theorem e45_99 (x y : Int32) (ls : mL) (st : List Value) (σ : mS) : ev 45 99 ls (.int y :: .int x :: st) σ = if x = y then ev 45 102 ls st σ else ev 45 107 ls st σ := e_ic_ne k45_99
theorem k45_102 : cod 45 102 = some (.bipush (8), 2, 0, 0, 0, 0) := rfl
theorem e45_102 (ls : mL) (st : List Value) (σ : mS) : ev 45 102 ls st σ = ev 45 104 ls (.int 8 :: st) σ := e_bipush 8 k45_102 (by decide)
theorem k45_104 : cod 45 104 = some (.goto (5), 3, 109, 0, 0, 0) := rfl
theorem e45_104 (ls : mL) (st : List Value) (σ : mS) : ev 45 104 ls st σ = ev 45 109 ls st σ := e_goto k45_104
theorem k45_107 : cod 45 107 = some (.bipush (9), 2, 0, 0, 0, 0) := rfl
theorem e45_107 (ls : mL) (st : List Value) (σ : mS) : ev 45 107 ls st σ = ev 45 109 ls (.int 9 :: st) σ := e_bipush 9 k45_107 (by decide)
theorem k45_109 : cod 45 109 = some (.iconst 0, 1, 0, 0, 0, 0) := rfl
theorem e45_109 (ls : mL) (st : List Value) (σ : mS) : ev 45 109 ls st σ = ev 45 110 ls (.int 0 :: st) σ := e_iconst 0 k45_109 (by decide)
theorem k45_110 : cod 45 110 = some (.iload_n 2, 1, 0, 0, 0, 0) := rfl
theorem e45_110 (a0 a1 : Option Value) (x : Int32) (ls : mL) (st : List Value) (σ : mS) : ev 45 110 (a0 :: a1 :: some (.int x) :: ls) st σ = ev 45 111 (a0 :: a1 :: some (.int x) :: ls) (.int x :: st) σ := e_iload1 k45_110 rfl
theorem k45_111 : cod 45 111 = some (.invokevirtual 61, 3, 50, 3, 0, 5) := rfl
theorem e45_111 (t : Nat) (x0 : Int32) (x1 : Int32) (x2 : Int32) (ls : mL) (st : List Value) (σ : mS) (hm : mCat st ≤ 8) : ev 45 111 ls (.int x2 :: .int x1 :: .int x0 :: .ref t :: st) σ = isC (σ.1 t) 5 ((evM 50 [.ref t, .int x0, .int x1, .int x2] σ).bind fun z => ev 45 114 ls (z.1.toList ++ st) z.2) := e_callVK k45_111 (by decide) rfl ⟨hm, Nat.le_of_ble_eq_true rfl⟩
theorem k45_114 : cod 45 114 = some (.iload_n 3, 1, 0, 0, 0, 0) := rfl
theorem e45_114 (a0 a1 a2 : Option Value) (x : Int32) (ls : mL) (st : List Value) (σ : mS) : ev 45 114 (a0 :: a1 :: a2 :: some (.int x) :: ls) st σ = ev 45 115 (a0 :: a1 :: a2 :: some (.int x) :: ls) (.int x :: st) σ := e_iload1 k45_114 rfl
theorem k45_115 : cod 45 115 = some (.istore_n 2, 1, 0, 0, 0, 0) := rfl
theorem e45_115i (a0 : Option Value) (y : Int32) (o : Option Value) (x : Int32) (ls : mL) (st : List Value) (σ : mS) : ev 45 115 (a0 :: some (.int y) :: o :: ls) (.int x :: st) σ = ev 45 116 (a0 :: some (.int y) :: some (.int x) :: ls) st σ := e_istore1 k45_115 (Nat.le_add_left 3 ls.length)
theorem e45_115n (a0 : Option Value) (o : Option Value) (x : Int32) (ls : mL) (st : List Value) (σ : mS) : ev 45 115 (a0 :: none :: o :: ls) (.int x :: st) σ = ev 45 116 (a0 :: none :: some (.int x) :: ls) st σ := e_istore1 k45_115 (Nat.le_add_left 3 ls.length)
theorem e45_115r (a0 : Option Value) (y : Nat) (o : Option Value) (x : Int32) (ls : mL) (st : List Value) (σ : mS) : ev 45 115 (a0 :: some (.ref y) :: o :: ls) (.int x :: st) σ = ev 45 116 (a0 :: some (.ref y) :: some (.int x) :: ls) st σ := e_istore1 k45_115 (Nat.le_add_left 3 ls.length)
theorem k45_116 : cod 45 116 = some (.goto (-104), 3, 12, 0, 0, 0) := rfl
theorem e45_116 (ls : mL) (st : List Value) (σ : mS) : ev 45 116 ls st σ = ev 45 12 ls st σ := e_goto k45_116
theorem k45_119 : cod 45 119 = some (.aload_n 0, 1, 0, 0, 0, 0) := rfl
theorem e45_119 (x : Nat) (ls : mL) (st : List Value) (σ : mS) : ev 45 119 (some (.ref x) :: ls) st σ = ev 45 120 (some (.ref x) :: ls) (.ref x :: st) σ := e_aload1 k45_119 rfl
theorem k45_120 : cod 45 120 = some (.iconst 0, 1, 0, 0, 0, 0) := rfl
theorem e45_120 (ls : mL) (st : List Value) (σ : mS) : ev 45 120 ls st σ = ev 45 121 ls (.int 0 :: st) σ := e_iconst 0 k45_120 (by decide)
theorem k45_121 : cod 45 121 = some (.iconst 0, 1, 0, 0, 0, 0) := rfl
theorem e45_121 (ls : mL) (st : List Value) (σ : mS) : ev 45 121 ls st σ = ev 45 122 ls (.int 0 :: st) σ := e_iconst 0 k45_121 (by decide)
theorem k45_122 : cod 45 122 = some (.aload_n 1, 1, 0, 0, 0, 0) := rfl
theorem e45_122 (a0 : Option Value) (x : Nat) (ls : mL) (st : List Value) (σ : mS) : ev 45 122 (a0 :: some (.ref x) :: ls) st σ = ev 45 123 (a0 :: some (.ref x) :: ls) (.ref x :: st) σ := e_aload1 k45_122 rfl
theorem k45_123 : cod 45 123 = some (.getfield 28, 3, 4, 1, 1, 0) := rfl
theorem e45_123 (t : Nat) (ls : mL) (st : List Value) (σ : mS) : ev 45 123 ls (.ref t :: st) σ = gfK (σ.1 t) 4 1 (fun v => ev 45 126 ls (v :: st) σ) := e_getf k45_123
theorem k45_126 : cod 45 126 = some (.invokevirtual 61, 3, 50, 3, 0, 5) := rfl
theorem e45_126 (t : Nat) (x0 : Int32) (x1 : Int32) (x2 : Int32) (ls : mL) (st : List Value) (σ : mS) (hm : mCat st ≤ 8) : ev 45 126 ls (.int x2 :: .int x1 :: .int x0 :: .ref t :: st) σ = isC (σ.1 t) 5 ((evM 50 [.ref t, .int x0, .int x1, .int x2] σ).bind fun z => ev 45 129 ls (z.1.toList ++ st) z.2) := e_callVK k45_126 (by decide) rfl ⟨hm, Nat.le_of_ble_eq_true rfl⟩
theorem k45_129 : cod 45 129 = some (.return_, 1, 0, 0, 0, 0) := rfl
theorem e45_129 (ls : mL) (σ : mS) : ev 45 129 ls [] σ = some (none, σ) := e_vret k45_129 rfl
theorem m45 (t : Nat) (x0 : Nat) (σ : mS) : evM 45 [.ref t, .ref x0] σ = ev 45 0 [some (.ref t), some (.ref x0), none, none, none] [] σ := rfl
theorem k46_0 : cod 46 0 = some (.aload_n 0, 1, 0, 0, 0, 0) := rfl
theorem e46_0 (x : Nat) (ls : mL) (st : List Value) (σ : mS) : ev 46 0 (some (.ref x) :: ls) st σ = ev 46 1 (some (.ref x) :: ls) (.ref x :: st) σ := e_aload1 k46_0 rfl
theorem k46_1 : cod 46 1 = some (.iload_n 1, 1, 0, 0, 0, 0) := rfl
theorem e46_1 (a0 : Option Value) (x : Int32) (ls : mL) (st : List Value) (σ : mS) : ev 46 1 (a0 :: some (.int x) :: ls) st σ = ev 46 2 (a0 :: some (.int x) :: ls) (.int x :: st) σ := e_iload1 k46_1 rfl
theorem k46_2 : cod 46 2 = some (.invokevirtual 43, 3, 43, 1, 0, 4) := rfl
theorem e46_2 (t : Nat) (x0 : Int32) (ls : mL) (st : List Value) (σ : mS) (hm : mCat st ≤ 8) : ev 46 2 ls (.int x0 :: .ref t :: st) σ = isC (σ.1 t) 4 ((evM 43 [.ref t, .int x0] σ).bind fun z => ev 46 5 ls (z.1.toList ++ st) z.2) := e_callVK k46_2 (by decide) rfl ⟨hm, Nat.le_of_ble_eq_true rfl⟩
theorem k46_5 : cod 46 5 = some (.invokestatic 47, 3, 47, 1, 0, 0) := rfl
theorem e46_5 (x0 : Int32) (ls : mL) (st : List Value) (σ : mS) (hm : mCat st ≤ 8) : ev 46 5 ls (.int x0 :: st) σ = (evM 47 [.int x0] σ).bind fun z => ev 46 8 ls (z.1.toList ++ st) z.2 := e_callS k46_5 (by decide) rfl ⟨hm, Nat.le_of_ble_eq_true rfl⟩
theorem k46_8 : cod 46 8 = some (.istore_n 2, 1, 0, 0, 0, 0) := rfl
theorem e46_8i (a0 : Option Value) (y : Int32) (o : Option Value) (x : Int32) (ls : mL) (st : List Value) (σ : mS) : ev 46 8 (a0 :: some (.int y) :: o :: ls) (.int x :: st) σ = ev 46 9 (a0 :: some (.int y) :: some (.int x) :: ls) st σ := e_istore1 k46_8 (Nat.le_add_left 3 ls.length)
theorem e46_8n (a0 : Option Value) (o : Option Value) (x : Int32) (ls : mL) (st : List Value) (σ : mS) : ev 46 8 (a0 :: none :: o :: ls) (.int x :: st) σ = ev 46 9 (a0 :: none :: some (.int x) :: ls) st σ := e_istore1 k46_8 (Nat.le_add_left 3 ls.length)
theorem e46_8r (a0 : Option Value) (y : Nat) (o : Option Value) (x : Int32) (ls : mL) (st : List Value) (σ : mS) : ev 46 8 (a0 :: some (.ref y) :: o :: ls) (.int x :: st) σ = ev 46 9 (a0 :: some (.ref y) :: some (.int x) :: ls) st σ := e_istore1 k46_8 (Nat.le_add_left 3 ls.length)
theorem k46_9 : cod 46 9 = some (.aload_n 0, 1, 0, 0, 0, 0) := rfl
theorem e46_9 (x : Nat) (ls : mL) (st : List Value) (σ : mS) : ev 46 9 (some (.ref x) :: ls) st σ = ev 46 10 (some (.ref x) :: ls) (.ref x :: st) σ := e_aload1 k46_9 rfl
theorem k46_10 : cod 46 10 = some (.iload_n 1, 1, 0, 0, 0, 0) := rfl
theorem e46_10 (a0 : Option Value) (x : Int32) (ls : mL) (st : List Value) (σ : mS) : ev 46 10 (a0 :: some (.int x) :: ls) st σ = ev 46 11 (a0 :: some (.int x) :: ls) (.int x :: st) σ := e_iload1 k46_10 rfl
theorem k46_11 : cod 46 11 = some (.invokevirtual 43, 3, 43, 1, 0, 4) := rfl
theorem e46_11 (t : Nat) (x0 : Int32) (ls : mL) (st : List Value) (σ : mS) (hm : mCat st ≤ 8) : ev 46 11 ls (.int x0 :: .ref t :: st) σ = isC (σ.1 t) 4 ((evM 43 [.ref t, .int x0] σ).bind fun z => ev 46 14 ls (z.1.toList ++ st) z.2) := e_callVK k46_11 (by decide) rfl ⟨hm, Nat.le_of_ble_eq_true rfl⟩
theorem k46_14 : cod 46 14 = some (.invokestatic 55, 3, 48, 1, 0, 0) := rfl
theorem e46_14 (x0 : Int32) (ls : mL) (st : List Value) (σ : mS) (hm : mCat st ≤ 8) : ev 46 14 ls (.int x0 :: st) σ = (evM 48 [.int x0] σ).bind fun z => ev 46 17 ls (z.1.toList ++ st) z.2 := e_callS k46_14 (by decide) rfl ⟨hm, Nat.le_of_ble_eq_true rfl⟩
theorem k46_17 : cod 46 17 = some (.istore_n 3, 1, 0, 0, 0, 0) := rfl
theorem e46_17i (a0 a1 : Option Value) (y : Int32) (o : Option Value) (x : Int32) (ls : mL) (st : List Value) (σ : mS) : ev 46 17 (a0 :: a1 :: some (.int y) :: o :: ls) (.int x :: st) σ = ev 46 18 (a0 :: a1 :: some (.int y) :: some (.int x) :: ls) st σ := e_istore1 k46_17 (Nat.le_add_left 4 ls.length)
theorem e46_17n (a0 a1 : Option Value) (o : Option Value) (x : Int32) (ls : mL) (st : List Value) (σ : mS) : ev 46 17 (a0 :: a1 :: none :: o :: ls) (.int x :: st) σ = ev 46 18 (a0 :: a1 :: none :: some (.int x) :: ls) st σ := e_istore1 k46_17 (Nat.le_add_left 4 ls.length)
theorem e46_17r (a0 a1 : Option Value) (y : Nat) (o : Option Value) (x : Int32) (ls : mL) (st : List Value) (σ : mS) : ev 46 17 (a0 :: a1 :: some (.ref y) :: o :: ls) (.int x :: st) σ = ev 46 18 (a0 :: a1 :: some (.ref y) :: some (.int x) :: ls) st σ := e_istore1 k46_17 (Nat.le_add_left 4 ls.length)
theorem k46_18 : cod 46 18 = some (.iload_n 1, 1, 0, 0, 0, 0) := rfl
theorem e46_18 (a0 : Option Value) (x : Int32) (ls : mL) (st : List Value) (σ : mS) : ev 46 18 (a0 :: some (.int x) :: ls) st σ = ev 46 19 (a0 :: some (.int x) :: ls) (.int x :: st) σ := e_iload1 k46_18 rfl
theorem k46_19 : cod 46 19 = some (.istore 4, 2, 0, 0, 0, 0) := rfl
theorem e46_19i (a0 a1 a2 : Option Value) (y : Int32) (o : Option Value) (x : Int32) (ls : mL) (st : List Value) (σ : mS) : ev 46 19 (a0 :: a1 :: a2 :: some (.int y) :: o :: ls) (.int x :: st) σ = ev 46 21 (a0 :: a1 :: a2 :: some (.int y) :: some (.int x) :: ls) st σ := e_istore0 k46_19 (Nat.le_add_left 5 ls.length)
theorem e46_19n (a0 a1 a2 : Option Value) (o : Option Value) (x : Int32) (ls : mL) (st : List Value) (σ : mS) : ev 46 19 (a0 :: a1 :: a2 :: none :: o :: ls) (.int x :: st) σ = ev 46 21 (a0 :: a1 :: a2 :: none :: some (.int x) :: ls) st σ := e_istore0 k46_19 (Nat.le_add_left 5 ls.length)
theorem e46_19r (a0 a1 a2 : Option Value) (y : Nat) (o : Option Value) (x : Int32) (ls : mL) (st : List Value) (σ : mS) : ev 46 19 (a0 :: a1 :: a2 :: some (.ref y) :: o :: ls) (.int x :: st) σ = ev 46 21 (a0 :: a1 :: a2 :: some (.ref y) :: some (.int x) :: ls) st σ := e_istore0 k46_19 (Nat.le_add_left 5 ls.length)
theorem k46_21 : cod 46 21 = some (.iload 4, 2, 0, 0, 0, 0) := rfl
theorem e46_21 (a0 a1 a2 a3 : Option Value) (x : Int32) (ls : mL) (st : List Value) (σ : mS) : ev 46 21 (a0 :: a1 :: a2 :: a3 :: some (.int x) :: ls) st σ = ev 46 23 (a0 :: a1 :: a2 :: a3 :: some (.int x) :: ls) (.int x :: st) σ := e_iload0 k46_21 rfl
theorem k46_23 : cod 46 23 = some (.aload_n 0, 1, 0, 0, 0, 0) := rfl
theorem e46_23 (x : Nat) (ls : mL) (st : List Value) (σ : mS) : ev 46 23 (some (.ref x) :: ls) st σ = ev 46 24 (some (.ref x) :: ls) (.ref x :: st) σ := e_aload1 k46_23 rfl
theorem k46_24 : cod 46 24 = some (.getfield 28, 3, 4, 1, 1, 0) := rfl
theorem e46_24 (t : Nat) (ls : mL) (st : List Value) (σ : mS) : ev 46 24 ls (.ref t :: st) σ = gfK (σ.1 t) 4 1 (fun v => ev 46 27 ls (v :: st) σ) := e_getf k46_24
theorem k46_27 : cod 46 27 = some (.if_icmp .ge (44), 3, 71, 0, 0, 0) := rfl
theorem e46_27 (x y : Int32) (ls : mL) (st : List Value) (σ : mS) : ev 46 27 ls (.int y :: .int x :: st) σ = if y ≤ x then ev 46 71 ls st σ else ev 46 30 ls st σ := e_ic_ge k46_27
theorem k46_30 : cod 46 30 = some (.aload_n 0, 1, 0, 0, 0, 0) := rfl
theorem e46_30 (x : Nat) (ls : mL) (st : List Value) (σ : mS) : ev 46 30 (some (.ref x) :: ls) st σ = ev 46 31 (some (.ref x) :: ls) (.ref x :: st) σ := e_aload1 k46_30 rfl
theorem k46_31 : cod 46 31 = some (.iload 4, 2, 0, 0, 0, 0) := rfl
theorem e46_31 (a0 a1 a2 a3 : Option Value) (x : Int32) (ls : mL) (st : List Value) (σ : mS) : ev 46 31 (a0 :: a1 :: a2 :: a3 :: some (.int x) :: ls) st σ = ev 46 33 (a0 :: a1 :: a2 :: a3 :: some (.int x) :: ls) (.int x :: st) σ := e_iload0 k46_31 rfl
theorem k46_33 : cod 46 33 = some (.invokevirtual 43, 3, 43, 1, 0, 4) := rfl
theorem e46_33 (t : Nat) (x0 : Int32) (ls : mL) (st : List Value) (σ : mS) (hm : mCat st ≤ 8) : ev 46 33 ls (.int x0 :: .ref t :: st) σ = isC (σ.1 t) 4 ((evM 43 [.ref t, .int x0] σ).bind fun z => ev 46 36 ls (z.1.toList ++ st) z.2) := e_callVK k46_33 (by decide) rfl ⟨hm, Nat.le_of_ble_eq_true rfl⟩
theorem k46_36 : cod 46 36 = some (.istore 5, 2, 0, 0, 0, 0) := rfl
theorem e46_36i (a0 a1 a2 a3 : Option Value) (y : Int32) (o : Option Value) (x : Int32) (ls : mL) (st : List Value) (σ : mS) : ev 46 36 (a0 :: a1 :: a2 :: a3 :: some (.int y) :: o :: ls) (.int x :: st) σ = ev 46 38 (a0 :: a1 :: a2 :: a3 :: some (.int y) :: some (.int x) :: ls) st σ := e_istore0 k46_36 (Nat.le_add_left 6 ls.length)
theorem e46_36n (a0 a1 a2 a3 : Option Value) (o : Option Value) (x : Int32) (ls : mL) (st : List Value) (σ : mS) : ev 46 36 (a0 :: a1 :: a2 :: a3 :: none :: o :: ls) (.int x :: st) σ = ev 46 38 (a0 :: a1 :: a2 :: a3 :: none :: some (.int x) :: ls) st σ := e_istore0 k46_36 (Nat.le_add_left 6 ls.length)
theorem e46_36r (a0 a1 a2 a3 : Option Value) (y : Nat) (o : Option Value) (x : Int32) (ls : mL) (st : List Value) (σ : mS) : ev 46 36 (a0 :: a1 :: a2 :: a3 :: some (.ref y) :: o :: ls) (.int x :: st) σ = ev 46 38 (a0 :: a1 :: a2 :: a3 :: some (.ref y) :: some (.int x) :: ls) st σ := e_istore0 k46_36 (Nat.le_add_left 6 ls.length)
theorem k46_38 : cod 46 38 = some (.iload_n 2, 1, 0, 0, 0, 0) := rfl
theorem e46_38 (a0 a1 : Option Value) (x : Int32) (ls : mL) (st : List Value) (σ : mS) : ev 46 38 (a0 :: a1 :: some (.int x) :: ls) st σ = ev 46 39 (a0 :: a1 :: some (.int x) :: ls) (.int x :: st) σ := e_iload1 k46_38 rfl
theorem k46_39 : cod 46 39 = some (.ifCond .eq (11), 3, 50, 0, 0, 0) := rfl
theorem e46_39 (x : Int32) (ls : mL) (st : List Value) (σ : mS) : ev 46 39 ls (.int x :: st) σ = if x = 0 then ev 46 50 ls st σ else ev 46 42 ls st σ := e_if_eq k46_39
theorem k46_42 : cod 46 42 = some (.iload 5, 2, 0, 0, 0, 0) := rfl
theorem e46_42 (a0 a1 a2 a3 a4 : Option Value) (x : Int32) (ls : mL) (st : List Value) (σ : mS) : ev 46 42 (a0 :: a1 :: a2 :: a3 :: a4 :: some (.int x) :: ls) st σ = ev 46 44 (a0 :: a1 :: a2 :: a3 :: a4 :: some (.int x) :: ls) (.int x :: st) σ := e_iload0 k46_42 rfl
theorem k46_44 : cod 46 44 = some (.invokestatic 47, 3, 47, 1, 0, 0) := rfl
theorem e46_44 (x0 : Int32) (ls : mL) (st : List Value) (σ : mS) (hm : mCat st ≤ 8) : ev 46 44 ls (.int x0 :: st) σ = (evM 47 [.int x0] σ).bind fun z => ev 46 47 ls (z.1.toList ++ st) z.2 := e_callS k46_44 (by decide) rfl ⟨hm, Nat.le_of_ble_eq_true rfl⟩
theorem k46_47 : cod 46 47 = some (.ifCond .ne (18), 3, 65, 0, 0, 0) := rfl
theorem e46_47 (x : Int32) (ls : mL) (st : List Value) (σ : mS) : ev 46 47 ls (.int x :: st) σ = if x = 0 then ev 46 50 ls st σ else ev 46 65 ls st σ := e_if_ne k46_47
theorem k46_50 : cod 46 50 = some (.iload_n 3, 1, 0, 0, 0, 0) := rfl
theorem e46_50 (a0 a1 a2 : Option Value) (x : Int32) (ls : mL) (st : List Value) (σ : mS) : ev 46 50 (a0 :: a1 :: a2 :: some (.int x) :: ls) st σ = ev 46 51 (a0 :: a1 :: a2 :: some (.int x) :: ls) (.int x :: st) σ := e_iload1 k46_50 rfl
theorem k46_51 : cod 46 51 = some (.ifCond .eq (11), 3, 62, 0, 0, 0) := rfl
theorem e46_51 (x : Int32) (ls : mL) (st : List Value) (σ : mS) : ev 46 51 ls (.int x :: st) σ = if x = 0 then ev 46 62 ls st σ else ev 46 54 ls st σ := e_if_eq k46_51
theorem k46_54 : cod 46 54 = some (.iload 5, 2, 0, 0, 0, 0) := rfl
theorem e46_54 (a0 a1 a2 a3 a4 : Option Value) (x : Int32) (ls : mL) (st : List Value) (σ : mS) : ev 46 54 (a0 :: a1 :: a2 :: a3 :: a4 :: some (.int x) :: ls) st σ = ev 46 56 (a0 :: a1 :: a2 :: a3 :: a4 :: some (.int x) :: ls) (.int x :: st) σ := e_iload0 k46_54 rfl
theorem k46_56 : cod 46 56 = some (.invokestatic 55, 3, 48, 1, 0, 0) := rfl
theorem e46_56 (x0 : Int32) (ls : mL) (st : List Value) (σ : mS) (hm : mCat st ≤ 8) : ev 46 56 ls (.int x0 :: st) σ = (evM 48 [.int x0] σ).bind fun z => ev 46 59 ls (z.1.toList ++ st) z.2 := e_callS k46_56 (by decide) rfl ⟨hm, Nat.le_of_ble_eq_true rfl⟩
theorem k46_59 : cod 46 59 = some (.ifCond .ne (6), 3, 65, 0, 0, 0) := rfl
theorem e46_59 (x : Int32) (ls : mL) (st : List Value) (σ : mS) : ev 46 59 ls (.int x :: st) σ = if x = 0 then ev 46 62 ls st σ else ev 46 65 ls st σ := e_if_ne k46_59
theorem k46_62 : cod 46 62 = some (.iload 4, 2, 0, 0, 0, 0) := rfl
theorem e46_62 (a0 a1 a2 a3 : Option Value) (x : Int32) (ls : mL) (st : List Value) (σ : mS) : ev 46 62 (a0 :: a1 :: a2 :: a3 :: some (.int x) :: ls) st σ = ev 46 64 (a0 :: a1 :: a2 :: a3 :: some (.int x) :: ls) (.int x :: st) σ := e_iload0 k46_62 rfl
theorem k46_64 : cod 46 64 = some (.ireturn, 1, 0, 0, 0, 0) := rfl
theorem e46_64 (x : Int32) (ls : mL) (σ : mS) : ev 46 64 ls [.int x] σ = some (some (.int x), σ) := e_iret k46_64 rfl
theorem k46_65 : cod 46 65 = some (.iinc 4 (1), 3, 0, 0, 0, 0) := rfl
theorem e46_65i (a0 a1 a2 : Option Value) (y : Int32) (x : Int32) (ls : mL) (st : List Value) (σ : mS) : ev 46 65 (a0 :: a1 :: a2 :: some (.int y) :: some (.int x) :: ls) st σ = ev 46 68 (a0 :: a1 :: a2 :: some (.int y) :: some (.int (x + 1)) :: ls) st σ := e_iinc 1 k46_65 (by decide) rfl
theorem e46_65n (a0 a1 a2 : Option Value) (x : Int32) (ls : mL) (st : List Value) (σ : mS) : ev 46 65 (a0 :: a1 :: a2 :: none :: some (.int x) :: ls) st σ = ev 46 68 (a0 :: a1 :: a2 :: none :: some (.int (x + 1)) :: ls) st σ := e_iinc 1 k46_65 (by decide) rfl
theorem e46_65r (a0 a1 a2 : Option Value) (y : Nat) (x : Int32) (ls : mL) (st : List Value) (σ : mS) : ev 46 65 (a0 :: a1 :: a2 :: some (.ref y) :: some (.int x) :: ls) st σ = ev 46 68 (a0 :: a1 :: a2 :: some (.ref y) :: some (.int (x + 1)) :: ls) st σ := e_iinc 1 k46_65 (by decide) rfl
theorem k46_68 : cod 46 68 = some (.goto (-47), 3, 21, 0, 0, 0) := rfl
theorem e46_68 (ls : mL) (st : List Value) (σ : mS) : ev 46 68 ls st σ = ev 46 21 ls st σ := e_goto k46_68
theorem k46_71 : cod 46 71 = some (.aload_n 0, 1, 0, 0, 0, 0) := rfl
theorem e46_71 (x : Nat) (ls : mL) (st : List Value) (σ : mS) : ev 46 71 (some (.ref x) :: ls) st σ = ev 46 72 (some (.ref x) :: ls) (.ref x :: st) σ := e_aload1 k46_71 rfl
theorem k46_72 : cod 46 72 = some (.getfield 28, 3, 4, 1, 1, 0) := rfl
theorem e46_72 (t : Nat) (ls : mL) (st : List Value) (σ : mS) : ev 46 72 ls (.ref t :: st) σ = gfK (σ.1 t) 4 1 (fun v => ev 46 75 ls (v :: st) σ) := e_getf k46_72
theorem k46_75 : cod 46 75 = some (.ireturn, 1, 0, 0, 0, 0) := rfl
theorem e46_75 (x : Int32) (ls : mL) (σ : mS) : ev 46 75 ls [.int x] σ = some (some (.int x), σ) := e_iret k46_75 rfl
theorem m46 (x0 : Nat) (x1 : Int32) (σ : mS) : evM 46 [.ref x0, .int x1] σ = ev 46 0 [some (.ref x0), some (.int x1), none, none, none, none] [] σ := rfl
theorem k47_0 : cod 47 0 = some (.iload_n 0, 1, 0, 0, 0, 0) := rfl
theorem e47_0 (x : Int32) (ls : mL) (st : List Value) (σ : mS) : ev 47 0 (some (.int x) :: ls) st σ = ev 47 1 (some (.int x) :: ls) (.int x :: st) σ := e_iload1 k47_0 rfl
theorem k47_1 : cod 47 1 = some (.bipush (48), 2, 0, 0, 0, 0) := rfl
theorem e47_1 (ls : mL) (st : List Value) (σ : mS) : ev 47 1 ls st σ = ev 47 3 ls (.int 48 :: st) σ := e_bipush 48 k47_1 (by decide)
theorem k47_3 : cod 47 3 = some (.if_icmp .lt (13), 3, 16, 0, 0, 0) := rfl
theorem e47_3 (x y : Int32) (ls : mL) (st : List Value) (σ : mS) : ev 47 3 ls (.int y :: .int x :: st) σ = if x < y then ev 47 16 ls st σ else ev 47 6 ls st σ := e_ic_lt k47_3
theorem k47_6 : cod 47 6 = some (.iload_n 0, 1, 0, 0, 0, 0) := rfl
theorem e47_6 (x : Int32) (ls : mL) (st : List Value) (σ : mS) : ev 47 6 (some (.int x) :: ls) st σ = ev 47 7 (some (.int x) :: ls) (.int x :: st) σ := e_iload1 k47_6 rfl
theorem k47_7 : cod 47 7 = some (.bipush (57), 2, 0, 0, 0, 0) := rfl
theorem e47_7 (ls : mL) (st : List Value) (σ : mS) : ev 47 7 ls st σ = ev 47 9 ls (.int 57 :: st) σ := e_bipush 57 k47_7 (by decide)
theorem k47_9 : cod 47 9 = some (.if_icmp .gt (7), 3, 16, 0, 0, 0) := rfl
theorem e47_9 (x y : Int32) (ls : mL) (st : List Value) (σ : mS) : ev 47 9 ls (.int y :: .int x :: st) σ = if y < x then ev 47 16 ls st σ else ev 47 12 ls st σ := e_ic_gt k47_9
theorem k47_12 : cod 47 12 = some (.iconst 1, 1, 0, 0, 0, 0) := rfl
theorem e47_12 (ls : mL) (st : List Value) (σ : mS) : ev 47 12 ls st σ = ev 47 13 ls (.int 1 :: st) σ := e_iconst 1 k47_12 (by decide)
theorem k47_13 : cod 47 13 = some (.goto (4), 3, 17, 0, 0, 0) := rfl
theorem e47_13 (ls : mL) (st : List Value) (σ : mS) : ev 47 13 ls st σ = ev 47 17 ls st σ := e_goto k47_13
theorem k47_16 : cod 47 16 = some (.iconst 0, 1, 0, 0, 0, 0) := rfl
theorem e47_16 (ls : mL) (st : List Value) (σ : mS) : ev 47 16 ls st σ = ev 47 17 ls (.int 0 :: st) σ := e_iconst 0 k47_16 (by decide)
theorem k47_17 : cod 47 17 = some (.ireturn, 1, 0, 0, 0, 0) := rfl
theorem e47_17 (x : Int32) (ls : mL) (σ : mS) : ev 47 17 ls [.int x] σ = if x = 0 ∨ x = 1 then some (some (.int x), σ) else none := e_zret k47_17 rfl
theorem e47_17b0 (ls : mL) (σ : mS) : ev 47 17 ls [.int 0] σ = some (some (.int 0), σ) := (e_zret k47_17 rfl).trans (if_pos (Or.inl rfl))
theorem e47_17b1 (ls : mL) (σ : mS) : ev 47 17 ls [.int 1] σ = some (some (.int 1), σ) := (e_zret k47_17 rfl).trans (if_pos (Or.inr rfl))
theorem m47 (x0 : Int32) (σ : mS) : evM 47 [.int x0] σ = ev 47 0 [some (.int x0)] [] σ := rfl
theorem k48_0 : cod 48 0 = some (.iload_n 0, 1, 0, 0, 0, 0) := rfl
theorem e48_0 (x : Int32) (ls : mL) (st : List Value) (σ : mS) : ev 48 0 (some (.int x) :: ls) st σ = ev 48 1 (some (.int x) :: ls) (.int x :: st) σ := e_iload1 k48_0 rfl
theorem k48_1 : cod 48 1 = some (.bipush (97), 2, 0, 0, 0, 0) := rfl
theorem e48_1 (ls : mL) (st : List Value) (σ : mS) : ev 48 1 ls st σ = ev 48 3 ls (.int 97 :: st) σ := e_bipush 97 k48_1 (by decide)
theorem k48_3 : cod 48 3 = some (.if_icmp .lt (13), 3, 16, 0, 0, 0) := rfl
theorem e48_3 (x y : Int32) (ls : mL) (st : List Value) (σ : mS) : ev 48 3 ls (.int y :: .int x :: st) σ = if x < y then ev 48 16 ls st σ else ev 48 6 ls st σ := e_ic_lt k48_3
theorem k48_6 : cod 48 6 = some (.iload_n 0, 1, 0, 0, 0, 0) := rfl
theorem e48_6 (x : Int32) (ls : mL) (st : List Value) (σ : mS) : ev 48 6 (some (.int x) :: ls) st σ = ev 48 7 (some (.int x) :: ls) (.int x :: st) σ := e_iload1 k48_6 rfl
theorem k48_7 : cod 48 7 = some (.bipush (122), 2, 0, 0, 0, 0) := rfl
theorem e48_7 (ls : mL) (st : List Value) (σ : mS) : ev 48 7 ls st σ = ev 48 9 ls (.int 122 :: st) σ := e_bipush 122 k48_7 (by decide)
theorem k48_9 : cod 48 9 = some (.if_icmp .gt (7), 3, 16, 0, 0, 0) := rfl
theorem e48_9 (x y : Int32) (ls : mL) (st : List Value) (σ : mS) : ev 48 9 ls (.int y :: .int x :: st) σ = if y < x then ev 48 16 ls st σ else ev 48 12 ls st σ := e_ic_gt k48_9
theorem k48_12 : cod 48 12 = some (.iconst 1, 1, 0, 0, 0, 0) := rfl
theorem e48_12 (ls : mL) (st : List Value) (σ : mS) : ev 48 12 ls st σ = ev 48 13 ls (.int 1 :: st) σ := e_iconst 1 k48_12 (by decide)
theorem k48_13 : cod 48 13 = some (.goto (4), 3, 17, 0, 0, 0) := rfl
theorem e48_13 (ls : mL) (st : List Value) (σ : mS) : ev 48 13 ls st σ = ev 48 17 ls st σ := e_goto k48_13
theorem k48_16 : cod 48 16 = some (.iconst 0, 1, 0, 0, 0, 0) := rfl
theorem e48_16 (ls : mL) (st : List Value) (σ : mS) : ev 48 16 ls st σ = ev 48 17 ls (.int 0 :: st) σ := e_iconst 0 k48_16 (by decide)
theorem k48_17 : cod 48 17 = some (.ireturn, 1, 0, 0, 0, 0) := rfl
theorem e48_17 (x : Int32) (ls : mL) (σ : mS) : ev 48 17 ls [.int x] σ = if x = 0 ∨ x = 1 then some (some (.int x), σ) else none := e_zret k48_17 rfl
theorem e48_17b0 (ls : mL) (σ : mS) : ev 48 17 ls [.int 0] σ = some (some (.int 0), σ) := (e_zret k48_17 rfl).trans (if_pos (Or.inl rfl))
theorem e48_17b1 (ls : mL) (σ : mS) : ev 48 17 ls [.int 1] σ = some (some (.int 1), σ) := (e_zret k48_17 rfl).trans (if_pos (Or.inr rfl))
theorem m48 (x0 : Int32) (σ : mS) : evM 48 [.int x0] σ = ev 48 0 [some (.int x0)] [] σ := rfl
theorem k49_0 : cod 49 0 = some (.iconst 0, 1, 0, 0, 0, 0) := rfl
theorem e49_0 (ls : mL) (st : List Value) (σ : mS) : ev 49 0 ls st σ = ev 49 1 ls (.int 0 :: st) σ := e_iconst 0 k49_0 (by decide)
theorem k49_1 : cod 49 1 = some (.istore 4, 2, 0, 0, 0, 0) := rfl
theorem e49_1i (a0 a1 a2 : Option Value) (y : Int32) (o : Option Value) (x : Int32) (ls : mL) (st : List Value) (σ : mS) : ev 49 1 (a0 :: a1 :: a2 :: some (.int y) :: o :: ls) (.int x :: st) σ = ev 49 3 (a0 :: a1 :: a2 :: some (.int y) :: some (.int x) :: ls) st σ := e_istore0 k49_1 (Nat.le_add_left 5 ls.length)
theorem e49_1n (a0 a1 a2 : Option Value) (o : Option Value) (x : Int32) (ls : mL) (st : List Value) (σ : mS) : ev 49 1 (a0 :: a1 :: a2 :: none :: o :: ls) (.int x :: st) σ = ev 49 3 (a0 :: a1 :: a2 :: none :: some (.int x) :: ls) st σ := e_istore0 k49_1 (Nat.le_add_left 5 ls.length)
theorem e49_1r (a0 a1 a2 : Option Value) (y : Nat) (o : Option Value) (x : Int32) (ls : mL) (st : List Value) (σ : mS) : ev 49 1 (a0 :: a1 :: a2 :: some (.ref y) :: o :: ls) (.int x :: st) σ = ev 49 3 (a0 :: a1 :: a2 :: some (.ref y) :: some (.int x) :: ls) st σ := e_istore0 k49_1 (Nat.le_add_left 5 ls.length)
theorem k49_3 : cod 49 3 = some (.iload_n 2, 1, 0, 0, 0, 0) := rfl
theorem e49_3 (a0 a1 : Option Value) (x : Int32) (ls : mL) (st : List Value) (σ : mS) : ev 49 3 (a0 :: a1 :: some (.int x) :: ls) st σ = ev 49 4 (a0 :: a1 :: some (.int x) :: ls) (.int x :: st) σ := e_iload1 k49_3 rfl
theorem k49_4 : cod 49 4 = some (.istore 5, 2, 0, 0, 0, 0) := rfl
theorem e49_4i (a0 a1 a2 a3 : Option Value) (y : Int32) (o : Option Value) (x : Int32) (ls : mL) (st : List Value) (σ : mS) : ev 49 4 (a0 :: a1 :: a2 :: a3 :: some (.int y) :: o :: ls) (.int x :: st) σ = ev 49 6 (a0 :: a1 :: a2 :: a3 :: some (.int y) :: some (.int x) :: ls) st σ := e_istore0 k49_4 (Nat.le_add_left 6 ls.length)
theorem e49_4n (a0 a1 a2 a3 : Option Value) (o : Option Value) (x : Int32) (ls : mL) (st : List Value) (σ : mS) : ev 49 4 (a0 :: a1 :: a2 :: a3 :: none :: o :: ls) (.int x :: st) σ = ev 49 6 (a0 :: a1 :: a2 :: a3 :: none :: some (.int x) :: ls) st σ := e_istore0 k49_4 (Nat.le_add_left 6 ls.length)
theorem e49_4r (a0 a1 a2 a3 : Option Value) (y : Nat) (o : Option Value) (x : Int32) (ls : mL) (st : List Value) (σ : mS) : ev 49 4 (a0 :: a1 :: a2 :: a3 :: some (.ref y) :: o :: ls) (.int x :: st) σ = ev 49 6 (a0 :: a1 :: a2 :: a3 :: some (.ref y) :: some (.int x) :: ls) st σ := e_istore0 k49_4 (Nat.le_add_left 6 ls.length)
theorem k49_6 : cod 49 6 = some (.iload 5, 2, 0, 0, 0, 0) := rfl
theorem e49_6 (a0 a1 a2 a3 a4 : Option Value) (x : Int32) (ls : mL) (st : List Value) (σ : mS) : ev 49 6 (a0 :: a1 :: a2 :: a3 :: a4 :: some (.int x) :: ls) st σ = ev 49 8 (a0 :: a1 :: a2 :: a3 :: a4 :: some (.int x) :: ls) (.int x :: st) σ := e_iload0 k49_6 rfl
theorem k49_8 : cod 49 8 = some (.iload_n 3, 1, 0, 0, 0, 0) := rfl
theorem e49_8 (a0 a1 a2 : Option Value) (x : Int32) (ls : mL) (st : List Value) (σ : mS) : ev 49 8 (a0 :: a1 :: a2 :: some (.int x) :: ls) st σ = ev 49 9 (a0 :: a1 :: a2 :: some (.int x) :: ls) (.int x :: st) σ := e_iload1 k49_8 rfl
theorem k49_9 : cod 49 9 = some (.if_icmp .ge (31), 3, 40, 0, 0, 0) := rfl
theorem e49_9 (x y : Int32) (ls : mL) (st : List Value) (σ : mS) : ev 49 9 ls (.int y :: .int x :: st) σ = if y ≤ x then ev 49 40 ls st σ else ev 49 12 ls st σ := e_ic_ge k49_9
theorem k49_12 : cod 49 12 = some (.iload 4, 2, 0, 0, 0, 0) := rfl
theorem e49_12 (a0 a1 a2 a3 : Option Value) (x : Int32) (ls : mL) (st : List Value) (σ : mS) : ev 49 12 (a0 :: a1 :: a2 :: a3 :: some (.int x) :: ls) st σ = ev 49 14 (a0 :: a1 :: a2 :: a3 :: some (.int x) :: ls) (.int x :: st) σ := e_iload0 k49_12 rfl
theorem k49_14 : cod 49 14 = some (.bipush (10), 2, 0, 0, 0, 0) := rfl
theorem e49_14 (ls : mL) (st : List Value) (σ : mS) : ev 49 14 ls st σ = ev 49 16 ls (.int 10 :: st) σ := e_bipush 10 k49_14 (by decide)
theorem k49_16 : cod 49 16 = some (.imul, 1, 0, 0, 0, 0) := rfl
theorem e49_16 (x y : Int32) (ls : mL) (st : List Value) (σ : mS) : ev 49 16 ls (.int y :: .int x :: st) σ = ev 49 17 ls (.int (x * y) :: st) σ := e_imul k49_16
theorem k49_17 : cod 49 17 = some (.aload_n 1, 1, 0, 0, 0, 0) := rfl
theorem e49_17 (a0 : Option Value) (x : Nat) (ls : mL) (st : List Value) (σ : mS) : ev 49 17 (a0 :: some (.ref x) :: ls) st σ = ev 49 18 (a0 :: some (.ref x) :: ls) (.ref x :: st) σ := e_aload1 k49_17 rfl
theorem k49_18 : cod 49 18 = some (.iload 5, 2, 0, 0, 0, 0) := rfl
theorem e49_18 (a0 a1 a2 a3 a4 : Option Value) (x : Int32) (ls : mL) (st : List Value) (σ : mS) : ev 49 18 (a0 :: a1 :: a2 :: a3 :: a4 :: some (.int x) :: ls) st σ = ev 49 20 (a0 :: a1 :: a2 :: a3 :: a4 :: some (.int x) :: ls) (.int x :: st) σ := e_iload0 k49_18 rfl
theorem k49_20 : cod 49 20 = some (.invokevirtual 43, 3, 43, 1, 0, 4) := rfl
theorem e49_20 (t : Nat) (x0 : Int32) (ls : mL) (st : List Value) (σ : mS) (hm : mCat st ≤ 8) : ev 49 20 ls (.int x0 :: .ref t :: st) σ = isC (σ.1 t) 4 ((evM 43 [.ref t, .int x0] σ).bind fun z => ev 49 23 ls (z.1.toList ++ st) z.2) := e_callVK k49_20 (by decide) rfl ⟨hm, Nat.le_of_ble_eq_true rfl⟩
theorem k49_23 : cod 49 23 = some (.iadd, 1, 0, 0, 0, 0) := rfl
theorem e49_23 (x y : Int32) (ls : mL) (st : List Value) (σ : mS) : ev 49 23 ls (.int y :: .int x :: st) σ = ev 49 24 ls (.int (x + y) :: st) σ := e_iadd k49_23
theorem k49_24 : cod 49 24 = some (.bipush (48), 2, 0, 0, 0, 0) := rfl
theorem e49_24 (ls : mL) (st : List Value) (σ : mS) : ev 49 24 ls st σ = ev 49 26 ls (.int 48 :: st) σ := e_bipush 48 k49_24 (by decide)
theorem k49_26 : cod 49 26 = some (.isub, 1, 0, 0, 0, 0) := rfl
theorem e49_26 (x y : Int32) (ls : mL) (st : List Value) (σ : mS) : ev 49 26 ls (.int y :: .int x :: st) σ = ev 49 27 ls (.int (x - y) :: st) σ := e_isub k49_26
theorem k49_27 : cod 49 27 = some (.bipush (16), 2, 0, 0, 0, 0) := rfl
theorem e49_27 (ls : mL) (st : List Value) (σ : mS) : ev 49 27 ls st σ = ev 49 29 ls (.int 16 :: st) σ := e_bipush 16 k49_27 (by decide)
theorem k49_29 : cod 49 29 = some (.invokestatic 72, 3, 0, 0, 5, 1) := rfl
theorem e49_29 (x y : Int32) (ls : mL) (st : List Value) (σ : mS) (hz : mCat st ≤ 8) : ev 49 29 ls (.int y :: .int x :: st) σ = ev 49 32 ls (.int (if y < x then y else x) :: st) σ := e_min k49_29 hz
theorem k49_32 : cod 49 32 = some (.istore 4, 2, 0, 0, 0, 0) := rfl
theorem e49_32i (a0 a1 a2 : Option Value) (y : Int32) (o : Option Value) (x : Int32) (ls : mL) (st : List Value) (σ : mS) : ev 49 32 (a0 :: a1 :: a2 :: some (.int y) :: o :: ls) (.int x :: st) σ = ev 49 34 (a0 :: a1 :: a2 :: some (.int y) :: some (.int x) :: ls) st σ := e_istore0 k49_32 (Nat.le_add_left 5 ls.length)
theorem e49_32n (a0 a1 a2 : Option Value) (o : Option Value) (x : Int32) (ls : mL) (st : List Value) (σ : mS) : ev 49 32 (a0 :: a1 :: a2 :: none :: o :: ls) (.int x :: st) σ = ev 49 34 (a0 :: a1 :: a2 :: none :: some (.int x) :: ls) st σ := e_istore0 k49_32 (Nat.le_add_left 5 ls.length)
theorem e49_32r (a0 a1 a2 : Option Value) (y : Nat) (o : Option Value) (x : Int32) (ls : mL) (st : List Value) (σ : mS) : ev 49 32 (a0 :: a1 :: a2 :: some (.ref y) :: o :: ls) (.int x :: st) σ = ev 49 34 (a0 :: a1 :: a2 :: some (.ref y) :: some (.int x) :: ls) st σ := e_istore0 k49_32 (Nat.le_add_left 5 ls.length)
theorem k49_34 : cod 49 34 = some (.iinc 5 (1), 3, 0, 0, 0, 0) := rfl
theorem e49_34i (a0 a1 a2 a3 : Option Value) (y : Int32) (x : Int32) (ls : mL) (st : List Value) (σ : mS) : ev 49 34 (a0 :: a1 :: a2 :: a3 :: some (.int y) :: some (.int x) :: ls) st σ = ev 49 37 (a0 :: a1 :: a2 :: a3 :: some (.int y) :: some (.int (x + 1)) :: ls) st σ := e_iinc 1 k49_34 (by decide) rfl
theorem e49_34n (a0 a1 a2 a3 : Option Value) (x : Int32) (ls : mL) (st : List Value) (σ : mS) : ev 49 34 (a0 :: a1 :: a2 :: a3 :: none :: some (.int x) :: ls) st σ = ev 49 37 (a0 :: a1 :: a2 :: a3 :: none :: some (.int (x + 1)) :: ls) st σ := e_iinc 1 k49_34 (by decide) rfl
theorem e49_34r (a0 a1 a2 a3 : Option Value) (y : Nat) (x : Int32) (ls : mL) (st : List Value) (σ : mS) : ev 49 34 (a0 :: a1 :: a2 :: a3 :: some (.ref y) :: some (.int x) :: ls) st σ = ev 49 37 (a0 :: a1 :: a2 :: a3 :: some (.ref y) :: some (.int (x + 1)) :: ls) st σ := e_iinc 1 k49_34 (by decide) rfl
theorem k49_37 : cod 49 37 = some (.goto (-31), 3, 6, 0, 0, 0) := rfl
theorem e49_37 (ls : mL) (st : List Value) (σ : mS) : ev 49 37 ls st σ = ev 49 6 ls st σ := e_goto k49_37
theorem k49_40 : cod 49 40 = some (.aload_n 1, 1, 0, 0, 0, 0) := rfl
theorem e49_40 (a0 : Option Value) (x : Nat) (ls : mL) (st : List Value) (σ : mS) : ev 49 40 (a0 :: some (.ref x) :: ls) st σ = ev 49 41 (a0 :: some (.ref x) :: ls) (.ref x :: st) σ := e_aload1 k49_40 rfl
theorem k49_41 : cod 49 41 = some (.iload_n 2, 1, 0, 0, 0, 0) := rfl
theorem e49_41 (a0 a1 : Option Value) (x : Int32) (ls : mL) (st : List Value) (σ : mS) : ev 49 41 (a0 :: a1 :: some (.int x) :: ls) st σ = ev 49 42 (a0 :: a1 :: some (.int x) :: ls) (.int x :: st) σ := e_iload1 k49_41 rfl
theorem k49_42 : cod 49 42 = some (.invokevirtual 43, 3, 43, 1, 0, 4) := rfl
theorem e49_42 (t : Nat) (x0 : Int32) (ls : mL) (st : List Value) (σ : mS) (hm : mCat st ≤ 8) : ev 49 42 ls (.int x0 :: .ref t :: st) σ = isC (σ.1 t) 4 ((evM 43 [.ref t, .int x0] σ).bind fun z => ev 49 45 ls (z.1.toList ++ st) z.2) := e_callVK k49_42 (by decide) rfl ⟨hm, Nat.le_of_ble_eq_true rfl⟩
theorem k49_45 : cod 49 45 = some (.bipush (48), 2, 0, 0, 0, 0) := rfl
theorem e49_45 (ls : mL) (st : List Value) (σ : mS) : ev 49 45 ls st σ = ev 49 47 ls (.int 48 :: st) σ := e_bipush 48 k49_45 (by decide)
theorem k49_47 : cod 49 47 = some (.if_icmp .ne (14), 3, 61, 0, 0, 0) := rfl
theorem e49_47 (x y : Int32) (ls : mL) (st : List Value) (σ : mS) : ev 49 47 ls (.int y :: .int x :: st) σ = if x = y then ev 49 50 ls st σ else ev 49 61 ls st σ := e_ic_ne k49_47
theorem k49_50 : cod 49 50 = some (.iload_n 3, 1, 0, 0, 0, 0) := rfl
theorem e49_50 (a0 a1 a2 : Option Value) (x : Int32) (ls : mL) (st : List Value) (σ : mS) : ev 49 50 (a0 :: a1 :: a2 :: some (.int x) :: ls) st σ = ev 49 51 (a0 :: a1 :: a2 :: some (.int x) :: ls) (.int x :: st) σ := e_iload1 k49_50 rfl
theorem k49_51 : cod 49 51 = some (.iload_n 2, 1, 0, 0, 0, 0) := rfl
theorem e49_51 (a0 a1 : Option Value) (x : Int32) (ls : mL) (st : List Value) (σ : mS) : ev 49 51 (a0 :: a1 :: some (.int x) :: ls) st σ = ev 49 52 (a0 :: a1 :: some (.int x) :: ls) (.int x :: st) σ := e_iload1 k49_51 rfl
theorem k49_52 : cod 49 52 = some (.iconst 1, 1, 0, 0, 0, 0) := rfl
theorem e49_52 (ls : mL) (st : List Value) (σ : mS) : ev 49 52 ls st σ = ev 49 53 ls (.int 1 :: st) σ := e_iconst 1 k49_52 (by decide)
theorem k49_53 : cod 49 53 = some (.iadd, 1, 0, 0, 0, 0) := rfl
theorem e49_53 (x y : Int32) (ls : mL) (st : List Value) (σ : mS) : ev 49 53 ls (.int y :: .int x :: st) σ = ev 49 54 ls (.int (x + y) :: st) σ := e_iadd k49_53
theorem k49_54 : cod 49 54 = some (.if_icmp .le (7), 3, 61, 0, 0, 0) := rfl
theorem e49_54 (x y : Int32) (ls : mL) (st : List Value) (σ : mS) : ev 49 54 ls (.int y :: .int x :: st) σ = if x ≤ y then ev 49 61 ls st σ else ev 49 57 ls st σ := e_ic_le k49_54
theorem k49_57 : cod 49 57 = some (.iconst 1, 1, 0, 0, 0, 0) := rfl
theorem e49_57 (ls : mL) (st : List Value) (σ : mS) : ev 49 57 ls st σ = ev 49 58 ls (.int 1 :: st) σ := e_iconst 1 k49_57 (by decide)
theorem k49_58 : cod 49 58 = some (.goto (4), 3, 62, 0, 0, 0) := rfl
theorem e49_58 (ls : mL) (st : List Value) (σ : mS) : ev 49 58 ls st σ = ev 49 62 ls st σ := e_goto k49_58
theorem k49_61 : cod 49 61 = some (.iconst 0, 1, 0, 0, 0, 0) := rfl
theorem e49_61 (ls : mL) (st : List Value) (σ : mS) : ev 49 61 ls st σ = ev 49 62 ls (.int 0 :: st) σ := e_iconst 0 k49_61 (by decide)
theorem k49_62 : cod 49 62 = some (.istore 5, 2, 0, 0, 0, 0) := rfl
theorem e49_62i (a0 a1 a2 a3 : Option Value) (y : Int32) (o : Option Value) (x : Int32) (ls : mL) (st : List Value) (σ : mS) : ev 49 62 (a0 :: a1 :: a2 :: a3 :: some (.int y) :: o :: ls) (.int x :: st) σ = ev 49 64 (a0 :: a1 :: a2 :: a3 :: some (.int y) :: some (.int x) :: ls) st σ := e_istore0 k49_62 (Nat.le_add_left 6 ls.length)
theorem e49_62n (a0 a1 a2 a3 : Option Value) (o : Option Value) (x : Int32) (ls : mL) (st : List Value) (σ : mS) : ev 49 62 (a0 :: a1 :: a2 :: a3 :: none :: o :: ls) (.int x :: st) σ = ev 49 64 (a0 :: a1 :: a2 :: a3 :: none :: some (.int x) :: ls) st σ := e_istore0 k49_62 (Nat.le_add_left 6 ls.length)
theorem e49_62r (a0 a1 a2 a3 : Option Value) (y : Nat) (o : Option Value) (x : Int32) (ls : mL) (st : List Value) (σ : mS) : ev 49 62 (a0 :: a1 :: a2 :: a3 :: some (.ref y) :: o :: ls) (.int x :: st) σ = ev 49 64 (a0 :: a1 :: a2 :: a3 :: some (.ref y) :: some (.int x) :: ls) st σ := e_istore0 k49_62 (Nat.le_add_left 6 ls.length)
theorem k49_64 : cod 49 64 = some (.aload_n 0, 1, 0, 0, 0, 0) := rfl
theorem e49_64 (x : Nat) (ls : mL) (st : List Value) (σ : mS) : ev 49 64 (some (.ref x) :: ls) st σ = ev 49 65 (some (.ref x) :: ls) (.ref x :: st) σ := e_aload1 k49_64 rfl
theorem k49_65 : cod 49 65 = some (.iload 5, 2, 0, 0, 0, 0) := rfl
theorem e49_65 (a0 a1 a2 a3 a4 : Option Value) (x : Int32) (ls : mL) (st : List Value) (σ : mS) : ev 49 65 (a0 :: a1 :: a2 :: a3 :: a4 :: some (.int x) :: ls) st σ = ev 49 67 (a0 :: a1 :: a2 :: a3 :: a4 :: some (.int x) :: ls) (.int x :: st) σ := e_iload0 k49_65 rfl
theorem k49_67 : cod 49 67 = some (.ifCond .ne (10), 3, 77, 0, 0, 0) := rfl
theorem e49_67 (x : Int32) (ls : mL) (st : List Value) (σ : mS) : ev 49 67 ls (.int x :: st) σ = if x = 0 then ev 49 70 ls st σ else ev 49 77 ls st σ := e_if_ne k49_67
theorem k49_70 : cod 49 70 = some (.iload 4, 2, 0, 0, 0, 0) := rfl
theorem e49_70 (a0 a1 a2 a3 : Option Value) (x : Int32) (ls : mL) (st : List Value) (σ : mS) : ev 49 70 (a0 :: a1 :: a2 :: a3 :: some (.int x) :: ls) st σ = ev 49 72 (a0 :: a1 :: a2 :: a3 :: some (.int x) :: ls) (.int x :: st) σ := e_iload0 k49_70 rfl
theorem k49_72 : cod 49 72 = some (.bipush (16), 2, 0, 0, 0, 0) := rfl
theorem e49_72 (ls : mL) (st : List Value) (σ : mS) : ev 49 72 ls st σ = ev 49 74 ls (.int 16 :: st) σ := e_bipush 16 k49_72 (by decide)
theorem k49_74 : cod 49 74 = some (.if_icmp .lt (8), 3, 82, 0, 0, 0) := rfl
theorem e49_74 (x y : Int32) (ls : mL) (st : List Value) (σ : mS) : ev 49 74 ls (.int y :: .int x :: st) σ = if x < y then ev 49 82 ls st σ else ev 49 77 ls st σ := e_ic_lt k49_74
theorem k49_77 : cod 49 77 = some (.bipush (9), 2, 0, 0, 0, 0) := rfl
theorem e49_77 (ls : mL) (st : List Value) (σ : mS) : ev 49 77 ls st σ = ev 49 79 ls (.int 9 :: st) σ := e_bipush 9 k49_77 (by decide)
theorem k49_79 : cod 49 79 = some (.goto (4), 3, 83, 0, 0, 0) := rfl
theorem e49_79 (ls : mL) (st : List Value) (σ : mS) : ev 49 79 ls st σ = ev 49 83 ls st σ := e_goto k49_79
theorem k49_82 : cod 49 82 = some (.iconst 1, 1, 0, 0, 0, 0) := rfl
theorem e49_82 (ls : mL) (st : List Value) (σ : mS) : ev 49 82 ls st σ = ev 49 83 ls (.int 1 :: st) σ := e_iconst 1 k49_82 (by decide)
theorem k49_83 : cod 49 83 = some (.iload 4, 2, 0, 0, 0, 0) := rfl
theorem e49_83 (a0 a1 a2 a3 : Option Value) (x : Int32) (ls : mL) (st : List Value) (σ : mS) : ev 49 83 (a0 :: a1 :: a2 :: a3 :: some (.int x) :: ls) st σ = ev 49 85 (a0 :: a1 :: a2 :: a3 :: some (.int x) :: ls) (.int x :: st) σ := e_iload0 k49_83 rfl
theorem k49_85 : cod 49 85 = some (.iload_n 2, 1, 0, 0, 0, 0) := rfl
theorem e49_85 (a0 a1 : Option Value) (x : Int32) (ls : mL) (st : List Value) (σ : mS) : ev 49 85 (a0 :: a1 :: some (.int x) :: ls) st σ = ev 49 86 (a0 :: a1 :: some (.int x) :: ls) (.int x :: st) σ := e_iload1 k49_85 rfl
theorem k49_86 : cod 49 86 = some (.invokevirtual 61, 3, 50, 3, 0, 5) := rfl
theorem e49_86 (t : Nat) (x0 : Int32) (x1 : Int32) (x2 : Int32) (ls : mL) (st : List Value) (σ : mS) (hm : mCat st ≤ 8) : ev 49 86 ls (.int x2 :: .int x1 :: .int x0 :: .ref t :: st) σ = isC (σ.1 t) 5 ((evM 50 [.ref t, .int x0, .int x1, .int x2] σ).bind fun z => ev 49 89 ls (z.1.toList ++ st) z.2) := e_callVK k49_86 (by decide) rfl ⟨hm, Nat.le_of_ble_eq_true rfl⟩
theorem k49_89 : cod 49 89 = some (.return_, 1, 0, 0, 0, 0) := rfl
theorem e49_89 (ls : mL) (σ : mS) : ev 49 89 ls [] σ = some (none, σ) := e_vret k49_89 rfl
theorem m49 (t : Nat) (x0 : Nat) (x1 : Int32) (x2 : Int32) (σ : mS) : evM 49 [.ref t, .ref x0, .int x1, .int x2] σ = ev 49 0 [some (.ref t), some (.ref x0), some (.int x1), some (.int x2), none, none] [] σ := rfl
theorem k50_0 : cod 50 0 = some (.aload_n 0, 1, 0, 0, 0, 0) := rfl
theorem e50_0 (x : Nat) (ls : mL) (st : List Value) (σ : mS) : ev 50 0 (some (.ref x) :: ls) st σ = ev 50 1 (some (.ref x) :: ls) (.ref x :: st) σ := e_aload1 k50_0 rfl
theorem k50_1 : cod 50 1 = some (.getfield 21, 3, 5, 3, 0, 0) := rfl
theorem e50_1 (t : Nat) (ls : mL) (st : List Value) (σ : mS) : ev 50 1 ls (.ref t :: st) σ = gfK (σ.1 t) 5 3 (fun v => ev 50 4 ls (v :: st) σ) := e_getf k50_1
theorem k50_4 : cod 50 4 = some (.ifCond .lt (53), 3, 57, 0, 0, 0) := rfl
theorem e50_4 (x : Int32) (ls : mL) (st : List Value) (σ : mS) : ev 50 4 ls (.int x :: st) σ = if x < 0 then ev 50 57 ls st σ else ev 50 7 ls st σ := e_if_lt k50_4
theorem k50_7 : cod 50 7 = some (.aload_n 0, 1, 0, 0, 0, 0) := rfl
theorem e50_7 (x : Nat) (ls : mL) (st : List Value) (σ : mS) : ev 50 7 (some (.ref x) :: ls) st σ = ev 50 8 (some (.ref x) :: ls) (.ref x :: st) σ := e_aload1 k50_7 rfl
theorem k50_8 : cod 50 8 = some (.getfield 21, 3, 5, 3, 0, 0) := rfl
theorem e50_8 (t : Nat) (ls : mL) (st : List Value) (σ : mS) : ev 50 8 ls (.ref t :: st) σ = gfK (σ.1 t) 5 3 (fun v => ev 50 11 ls (v :: st) σ) := e_getf k50_8
theorem k50_11 : cod 50 11 = some (.sipush (600), 3, 0, 0, 0, 0) := rfl
theorem e50_11 (ls : mL) (st : List Value) (σ : mS) : ev 50 11 ls st σ = ev 50 14 ls (.int 600 :: st) σ := e_sipush 600 k50_11 (by decide)
theorem k50_14 : cod 50 14 = some (.if_icmp .gt (43), 3, 57, 0, 0, 0) := rfl
theorem e50_14 (x y : Int32) (ls : mL) (st : List Value) (σ : mS) : ev 50 14 ls (.int y :: .int x :: st) σ = if y < x then ev 50 57 ls st σ else ev 50 17 ls st σ := e_ic_gt k50_14
theorem k50_17 : cod 50 17 = some (.aload_n 0, 1, 0, 0, 0, 0) := rfl
theorem e50_17 (x : Nat) (ls : mL) (st : List Value) (σ : mS) : ev 50 17 (some (.ref x) :: ls) st σ = ev 50 18 (some (.ref x) :: ls) (.ref x :: st) σ := e_aload1 k50_17 rfl
theorem k50_18 : cod 50 18 = some (.getfield 9, 3, 5, 0, 0, 3) := rfl
theorem e50_18 (t : Nat) (ls : mL) (st : List Value) (σ : mS) : ev 50 18 ls (.ref t :: st) σ = gfK (σ.1 t) 5 0 (fun v => ev 50 21 ls (v :: st) σ) := e_getf k50_18
theorem k50_21 : cod 50 21 = some (.aload_n 0, 1, 0, 0, 0, 0) := rfl
theorem e50_21 (x : Nat) (ls : mL) (st : List Value) (σ : mS) : ev 50 21 (some (.ref x) :: ls) st σ = ev 50 22 (some (.ref x) :: ls) (.ref x :: st) σ := e_aload1 k50_21 rfl
theorem k50_22 : cod 50 22 = some (.getfield 21, 3, 5, 3, 0, 0) := rfl
theorem e50_22 (t : Nat) (ls : mL) (st : List Value) (σ : mS) : ev 50 22 ls (.ref t :: st) σ = gfK (σ.1 t) 5 3 (fun v => ev 50 25 ls (v :: st) σ) := e_getf k50_22
theorem k50_25 : cod 50 25 = some (.iload_n 1, 1, 0, 0, 0, 0) := rfl
theorem e50_25 (a0 : Option Value) (x : Int32) (ls : mL) (st : List Value) (σ : mS) : ev 50 25 (a0 :: some (.int x) :: ls) st σ = ev 50 26 (a0 :: some (.int x) :: ls) (.int x :: st) σ := e_iload1 k50_25 rfl
theorem k50_26 : cod 50 26 = some (.iastore, 1, 0, 0, 0, 0) := rfl
theorem e50_26 (j x : Int32) (t : Nat) (ls : mL) (st : List Value) (σ : mS) : ev 50 26 ls (.int x :: .int j :: .ref t :: st) σ = asK (σ.1 t) 0 j x (fun e => ev 50 27 ls st (mset σ t e)) := e_iast k50_26
theorem k50_27 : cod 50 27 = some (.aload_n 0, 1, 0, 0, 0, 0) := rfl
theorem e50_27 (x : Nat) (ls : mL) (st : List Value) (σ : mS) : ev 50 27 (some (.ref x) :: ls) st σ = ev 50 28 (some (.ref x) :: ls) (.ref x :: st) σ := e_aload1 k50_27 rfl
theorem k50_28 : cod 50 28 = some (.getfield 15, 3, 5, 1, 0, 3) := rfl
theorem e50_28 (t : Nat) (ls : mL) (st : List Value) (σ : mS) : ev 50 28 ls (.ref t :: st) σ = gfK (σ.1 t) 5 1 (fun v => ev 50 31 ls (v :: st) σ) := e_getf k50_28
theorem k50_31 : cod 50 31 = some (.aload_n 0, 1, 0, 0, 0, 0) := rfl
theorem e50_31 (x : Nat) (ls : mL) (st : List Value) (σ : mS) : ev 50 31 (some (.ref x) :: ls) st σ = ev 50 32 (some (.ref x) :: ls) (.ref x :: st) σ := e_aload1 k50_31 rfl
theorem k50_32 : cod 50 32 = some (.getfield 21, 3, 5, 3, 0, 0) := rfl
theorem e50_32 (t : Nat) (ls : mL) (st : List Value) (σ : mS) : ev 50 32 ls (.ref t :: st) σ = gfK (σ.1 t) 5 3 (fun v => ev 50 35 ls (v :: st) σ) := e_getf k50_32
theorem k50_35 : cod 50 35 = some (.iload_n 2, 1, 0, 0, 0, 0) := rfl
theorem e50_35 (a0 a1 : Option Value) (x : Int32) (ls : mL) (st : List Value) (σ : mS) : ev 50 35 (a0 :: a1 :: some (.int x) :: ls) st σ = ev 50 36 (a0 :: a1 :: some (.int x) :: ls) (.int x :: st) σ := e_iload1 k50_35 rfl
theorem k50_36 : cod 50 36 = some (.iastore, 1, 0, 0, 0, 0) := rfl
theorem e50_36 (j x : Int32) (t : Nat) (ls : mL) (st : List Value) (σ : mS) : ev 50 36 ls (.int x :: .int j :: .ref t :: st) σ = asK (σ.1 t) 0 j x (fun e => ev 50 37 ls st (mset σ t e)) := e_iast k50_36
theorem k50_37 : cod 50 37 = some (.aload_n 0, 1, 0, 0, 0, 0) := rfl
theorem e50_37 (x : Nat) (ls : mL) (st : List Value) (σ : mS) : ev 50 37 (some (.ref x) :: ls) st σ = ev 50 38 (some (.ref x) :: ls) (.ref x :: st) σ := e_aload1 k50_37 rfl
theorem k50_38 : cod 50 38 = some (.getfield 18, 3, 5, 2, 0, 3) := rfl
theorem e50_38 (t : Nat) (ls : mL) (st : List Value) (σ : mS) : ev 50 38 ls (.ref t :: st) σ = gfK (σ.1 t) 5 2 (fun v => ev 50 41 ls (v :: st) σ) := e_getf k50_38
theorem k50_41 : cod 50 41 = some (.aload_n 0, 1, 0, 0, 0, 0) := rfl
theorem e50_41 (x : Nat) (ls : mL) (st : List Value) (σ : mS) : ev 50 41 (some (.ref x) :: ls) st σ = ev 50 42 (some (.ref x) :: ls) (.ref x :: st) σ := e_aload1 k50_41 rfl
theorem k50_42 : cod 50 42 = some (.getfield 21, 3, 5, 3, 0, 0) := rfl
theorem e50_42 (t : Nat) (ls : mL) (st : List Value) (σ : mS) : ev 50 42 ls (.ref t :: st) σ = gfK (σ.1 t) 5 3 (fun v => ev 50 45 ls (v :: st) σ) := e_getf k50_42
theorem k50_45 : cod 50 45 = some (.iload_n 3, 1, 0, 0, 0, 0) := rfl
theorem e50_45 (a0 a1 a2 : Option Value) (x : Int32) (ls : mL) (st : List Value) (σ : mS) : ev 50 45 (a0 :: a1 :: a2 :: some (.int x) :: ls) st σ = ev 50 46 (a0 :: a1 :: a2 :: some (.int x) :: ls) (.int x :: st) σ := e_iload1 k50_45 rfl
theorem k50_46 : cod 50 46 = some (.iastore, 1, 0, 0, 0, 0) := rfl
theorem e50_46 (j x : Int32) (t : Nat) (ls : mL) (st : List Value) (σ : mS) : ev 50 46 ls (.int x :: .int j :: .ref t :: st) σ = asK (σ.1 t) 0 j x (fun e => ev 50 47 ls st (mset σ t e)) := e_iast k50_46
theorem k50_47 : cod 50 47 = some (.aload_n 0, 1, 0, 0, 0, 0) := rfl
theorem e50_47 (x : Nat) (ls : mL) (st : List Value) (σ : mS) : ev 50 47 (some (.ref x) :: ls) st σ = ev 50 48 (some (.ref x) :: ls) (.ref x :: st) σ := e_aload1 k50_47 rfl
theorem k50_48 : cod 50 48 = some (.dup, 1, 0, 0, 0, 0) := rfl
theorem e50_48i (x : Int32) (ls : mL) (st : List Value) (σ : mS) : ev 50 48 ls (.int x :: st) σ = ev 50 49 ls (.int x :: .int x :: st) σ := e_dupI k50_48
theorem e50_48r (x : Nat) (ls : mL) (st : List Value) (σ : mS) : ev 50 48 ls (.ref x :: st) σ = ev 50 49 ls (.ref x :: .ref x :: st) σ := e_dupR k50_48
theorem k50_49 : cod 50 49 = some (.getfield 21, 3, 5, 3, 0, 0) := rfl
theorem e50_49 (t : Nat) (ls : mL) (st : List Value) (σ : mS) : ev 50 49 ls (.ref t :: st) σ = gfK (σ.1 t) 5 3 (fun v => ev 50 52 ls (v :: st) σ) := e_getf k50_49
theorem k50_52 : cod 50 52 = some (.iconst 1, 1, 0, 0, 0, 0) := rfl
theorem e50_52 (ls : mL) (st : List Value) (σ : mS) : ev 50 52 ls st σ = ev 50 53 ls (.int 1 :: st) σ := e_iconst 1 k50_52 (by decide)
theorem k50_53 : cod 50 53 = some (.iadd, 1, 0, 0, 0, 0) := rfl
theorem e50_53 (x y : Int32) (ls : mL) (st : List Value) (σ : mS) : ev 50 53 ls (.int y :: .int x :: st) σ = ev 50 54 ls (.int (x + y) :: st) σ := e_iadd k50_53
theorem k50_54 : cod 50 54 = some (.putfield 21, 3, 5, 3, 0, 0) := rfl
theorem e50_54 (x : Int32) (t : Nat) (ls : mL) (st : List Value) (σ : mS) : ev 50 54 ls (.int x :: .ref t :: st) σ = pfK (σ.1 t) 5 3 (.int x) (fun e => ev 50 57 ls st (mset σ t e)) := e_putI k50_54
theorem k50_57 : cod 50 57 = some (.return_, 1, 0, 0, 0, 0) := rfl
theorem e50_57 (ls : mL) (σ : mS) : ev 50 57 ls [] σ = some (none, σ) := e_vret k50_57 rfl
theorem m50 (t : Nat) (x0 : Int32) (x1 : Int32) (x2 : Int32) (σ : mS) : evM 50 [.ref t, .int x0, .int x1, .int x2] σ = ev 50 0 [some (.ref t), some (.int x0), some (.int x1), some (.int x2)] [] σ := rfl
theorem k51_0 : cod 51 0 = some (.aload_n 1, 1, 0, 0, 0, 0) := rfl
theorem e51_0 (a0 : Option Value) (x : Nat) (ls : mL) (st : List Value) (σ : mS) : ev 51 0 (a0 :: some (.ref x) :: ls) st σ = ev 51 1 (a0 :: some (.ref x) :: ls) (.ref x :: st) σ := e_aload1 k51_0 rfl
theorem k51_1 : cod 51 1 = some (.iload_n 2, 1, 0, 0, 0, 0) := rfl
theorem e51_1 (a0 a1 : Option Value) (x : Int32) (ls : mL) (st : List Value) (σ : mS) : ev 51 1 (a0 :: a1 :: some (.int x) :: ls) st σ = ev 51 2 (a0 :: a1 :: some (.int x) :: ls) (.int x :: st) σ := e_iload1 k51_1 rfl
theorem k51_2 : cod 51 2 = some (.invokevirtual 43, 3, 43, 1, 0, 4) := rfl
theorem e51_2 (t : Nat) (x0 : Int32) (ls : mL) (st : List Value) (σ : mS) (hm : mCat st ≤ 8) : ev 51 2 ls (.int x0 :: .ref t :: st) σ = isC (σ.1 t) 4 ((evM 43 [.ref t, .int x0] σ).bind fun z => ev 51 5 ls (z.1.toList ++ st) z.2) := e_callVK k51_2 (by decide) rfl ⟨hm, Nat.le_of_ble_eq_true rfl⟩
theorem k51_5 : cod 51 5 = some (.istore 4, 2, 0, 0, 0, 0) := rfl
theorem e51_5i (a0 a1 a2 : Option Value) (y : Int32) (o : Option Value) (x : Int32) (ls : mL) (st : List Value) (σ : mS) : ev 51 5 (a0 :: a1 :: a2 :: some (.int y) :: o :: ls) (.int x :: st) σ = ev 51 7 (a0 :: a1 :: a2 :: some (.int y) :: some (.int x) :: ls) st σ := e_istore0 k51_5 (Nat.le_add_left 5 ls.length)
theorem e51_5n (a0 a1 a2 : Option Value) (o : Option Value) (x : Int32) (ls : mL) (st : List Value) (σ : mS) : ev 51 5 (a0 :: a1 :: a2 :: none :: o :: ls) (.int x :: st) σ = ev 51 7 (a0 :: a1 :: a2 :: none :: some (.int x) :: ls) st σ := e_istore0 k51_5 (Nat.le_add_left 5 ls.length)
theorem e51_5r (a0 a1 a2 : Option Value) (y : Nat) (o : Option Value) (x : Int32) (ls : mL) (st : List Value) (σ : mS) : ev 51 5 (a0 :: a1 :: a2 :: some (.ref y) :: o :: ls) (.int x :: st) σ = ev 51 7 (a0 :: a1 :: a2 :: some (.ref y) :: some (.int x) :: ls) st σ := e_istore0 k51_5 (Nat.le_add_left 5 ls.length)
theorem k51_7 : cod 51 7 = some (.iload_n 3, 1, 0, 0, 0, 0) := rfl
theorem e51_7 (a0 a1 a2 : Option Value) (x : Int32) (ls : mL) (st : List Value) (σ : mS) : ev 51 7 (a0 :: a1 :: a2 :: some (.int x) :: ls) st σ = ev 51 8 (a0 :: a1 :: a2 :: some (.int x) :: ls) (.int x :: st) σ := e_iload1 k51_7 rfl
theorem k51_8 : cod 51 8 = some (.iload_n 2, 1, 0, 0, 0, 0) := rfl
theorem e51_8 (a0 a1 : Option Value) (x : Int32) (ls : mL) (st : List Value) (σ : mS) : ev 51 8 (a0 :: a1 :: some (.int x) :: ls) st σ = ev 51 9 (a0 :: a1 :: some (.int x) :: ls) (.int x :: st) σ := e_iload1 k51_8 rfl
theorem k51_9 : cod 51 9 = some (.iconst 1, 1, 0, 0, 0, 0) := rfl
theorem e51_9 (ls : mL) (st : List Value) (σ : mS) : ev 51 9 ls st σ = ev 51 10 ls (.int 1 :: st) σ := e_iconst 1 k51_9 (by decide)
theorem k51_10 : cod 51 10 = some (.iadd, 1, 0, 0, 0, 0) := rfl
theorem e51_10 (x y : Int32) (ls : mL) (st : List Value) (σ : mS) : ev 51 10 ls (.int y :: .int x :: st) σ = ev 51 11 ls (.int (x + y) :: st) σ := e_iadd k51_10
theorem k51_11 : cod 51 11 = some (.if_icmp .ne (24), 3, 35, 0, 0, 0) := rfl
theorem e51_11 (x y : Int32) (ls : mL) (st : List Value) (σ : mS) : ev 51 11 ls (.int y :: .int x :: st) σ = if x = y then ev 51 14 ls st σ else ev 51 35 ls st σ := e_ic_ne k51_11
theorem k51_14 : cod 51 14 = some (.iload 4, 2, 0, 0, 0, 0) := rfl
theorem e51_14 (a0 a1 a2 a3 : Option Value) (x : Int32) (ls : mL) (st : List Value) (σ : mS) : ev 51 14 (a0 :: a1 :: a2 :: a3 :: some (.int x) :: ls) st σ = ev 51 16 (a0 :: a1 :: a2 :: a3 :: some (.int x) :: ls) (.int x :: st) σ := e_iload0 k51_14 rfl
theorem k51_16 : cod 51 16 = some (.bipush (104), 2, 0, 0, 0, 0) := rfl
theorem e51_16 (ls : mL) (st : List Value) (σ : mS) : ev 51 16 ls st σ = ev 51 18 ls (.int 104 :: st) σ := e_bipush 104 k51_16 (by decide)
theorem k51_18 : cod 51 18 = some (.if_icmp .gt (17), 3, 35, 0, 0, 0) := rfl
theorem e51_18 (x y : Int32) (ls : mL) (st : List Value) (σ : mS) : ev 51 18 ls (.int y :: .int x :: st) σ = if y < x then ev 51 35 ls st σ else ev 51 21 ls st σ := e_ic_gt k51_18
theorem k51_21 : cod 51 21 = some (.aload_n 0, 1, 0, 0, 0, 0) := rfl
theorem e51_21 (x : Nat) (ls : mL) (st : List Value) (σ : mS) : ev 51 21 (some (.ref x) :: ls) st σ = ev 51 22 (some (.ref x) :: ls) (.ref x :: st) σ := e_aload1 k51_21 rfl
theorem k51_22 : cod 51 22 = some (.iconst 2, 1, 0, 0, 0, 0) := rfl
theorem e51_22 (ls : mL) (st : List Value) (σ : mS) : ev 51 22 ls st σ = ev 51 23 ls (.int 2 :: st) σ := e_iconst 2 k51_22 (by decide)
theorem k51_23 : cod 51 23 = some (.iload 4, 2, 0, 0, 0, 0) := rfl
theorem e51_23 (a0 a1 a2 a3 : Option Value) (x : Int32) (ls : mL) (st : List Value) (σ : mS) : ev 51 23 (a0 :: a1 :: a2 :: a3 :: some (.int x) :: ls) st σ = ev 51 25 (a0 :: a1 :: a2 :: a3 :: some (.int x) :: ls) (.int x :: st) σ := e_iload0 k51_23 rfl
theorem k51_25 : cod 51 25 = some (.bipush (97), 2, 0, 0, 0, 0) := rfl
theorem e51_25 (ls : mL) (st : List Value) (σ : mS) : ev 51 25 ls st σ = ev 51 27 ls (.int 97 :: st) σ := e_bipush 97 k51_25 (by decide)
theorem k51_27 : cod 51 27 = some (.isub, 1, 0, 0, 0, 0) := rfl
theorem e51_27 (x y : Int32) (ls : mL) (st : List Value) (σ : mS) : ev 51 27 ls (.int y :: .int x :: st) σ = ev 51 28 ls (.int (x - y) :: st) σ := e_isub k51_27
theorem k51_28 : cod 51 28 = some (.iload_n 2, 1, 0, 0, 0, 0) := rfl
theorem e51_28 (a0 a1 : Option Value) (x : Int32) (ls : mL) (st : List Value) (σ : mS) : ev 51 28 (a0 :: a1 :: some (.int x) :: ls) st σ = ev 51 29 (a0 :: a1 :: some (.int x) :: ls) (.int x :: st) σ := e_iload1 k51_28 rfl
theorem k51_29 : cod 51 29 = some (.invokevirtual 61, 3, 50, 3, 0, 5) := rfl
theorem e51_29 (t : Nat) (x0 : Int32) (x1 : Int32) (x2 : Int32) (ls : mL) (st : List Value) (σ : mS) (hm : mCat st ≤ 8) : ev 51 29 ls (.int x2 :: .int x1 :: .int x0 :: .ref t :: st) σ = isC (σ.1 t) 5 ((evM 50 [.ref t, .int x0, .int x1, .int x2] σ).bind fun z => ev 51 32 ls (z.1.toList ++ st) z.2) := e_callVK k51_29 (by decide) rfl ⟨hm, Nat.le_of_ble_eq_true rfl⟩
theorem k51_32 : cod 51 32 = some (.goto (90), 3, 122, 0, 0, 0) := rfl
theorem e51_32 (ls : mL) (st : List Value) (σ : mS) : ev 51 32 ls st σ = ev 51 122 ls st σ := e_goto k51_32
theorem k51_35 : cod 51 35 = some (.aload_n 1, 1, 0, 0, 0, 0) := rfl
theorem e51_35 (a0 : Option Value) (x : Nat) (ls : mL) (st : List Value) (σ : mS) : ev 51 35 (a0 :: some (.ref x) :: ls) st σ = ev 51 36 (a0 :: some (.ref x) :: ls) (.ref x :: st) σ := e_aload1 k51_35 rfl
theorem k51_36 : cod 51 36 = some (.iload_n 2, 1, 0, 0, 0, 0) := rfl
theorem e51_36 (a0 a1 : Option Value) (x : Int32) (ls : mL) (st : List Value) (σ : mS) : ev 51 36 (a0 :: a1 :: some (.int x) :: ls) st σ = ev 51 37 (a0 :: a1 :: some (.int x) :: ls) (.int x :: st) σ := e_iload1 k51_36 rfl
theorem k51_37 : cod 51 37 = some (.iload_n 3, 1, 0, 0, 0, 0) := rfl
theorem e51_37 (a0 a1 a2 : Option Value) (x : Int32) (ls : mL) (st : List Value) (σ : mS) : ev 51 37 (a0 :: a1 :: a2 :: some (.int x) :: ls) st σ = ev 51 38 (a0 :: a1 :: a2 :: some (.int x) :: ls) (.int x :: st) σ := e_iload1 k51_37 rfl
theorem k51_38 : cod 51 38 = some (.ldc 75, 2, 0, 0, 1, 0) := rfl
theorem e51_38 (ls : mL) (st : List Value) (σ : mS) : ev 51 38 ls st σ = ev 51 40 ls (.float 0 :: st) σ := e_ldcS k51_38
theorem k51_40 : cod 51 40 = some (.invokestatic 77, 3, 52, 4, 0, 0) := rfl
theorem e51_40 (x0 : Nat) (x1 : Int32) (x2 : Int32) (x3 : UInt32) (ls : mL) (st : List Value) (σ : mS) (hm : mCat st ≤ 8) : ev 51 40 ls (.float x3 :: .int x2 :: .int x1 :: .ref x0 :: st) σ = (evM 52 [.ref x0, .int x1, .int x2, .float x3] σ).bind fun z => ev 51 43 ls (z.1.toList ++ st) z.2 := e_callS k51_40 (by decide) rfl ⟨hm, Nat.le_of_ble_eq_true rfl⟩
theorem k51_43 : cod 51 43 = some (.ifCond .eq (13), 3, 56, 0, 0, 0) := rfl
theorem e51_43 (x : Int32) (ls : mL) (st : List Value) (σ : mS) : ev 51 43 ls (.int x :: st) σ = if x = 0 then ev 51 56 ls st σ else ev 51 46 ls st σ := e_if_eq k51_43
theorem k51_46 : cod 51 46 = some (.aload_n 0, 1, 0, 0, 0, 0) := rfl
theorem e51_46 (x : Nat) (ls : mL) (st : List Value) (σ : mS) : ev 51 46 (some (.ref x) :: ls) st σ = ev 51 47 (some (.ref x) :: ls) (.ref x :: st) σ := e_aload1 k51_46 rfl
theorem k51_47 : cod 51 47 = some (.iconst 3, 1, 0, 0, 0, 0) := rfl
theorem e51_47 (ls : mL) (st : List Value) (σ : mS) : ev 51 47 ls st σ = ev 51 48 ls (.int 3 :: st) σ := e_iconst 3 k51_47 (by decide)
theorem k51_48 : cod 51 48 = some (.iconst 0, 1, 0, 0, 0, 0) := rfl
theorem e51_48 (ls : mL) (st : List Value) (σ : mS) : ev 51 48 ls st σ = ev 51 49 ls (.int 0 :: st) σ := e_iconst 0 k51_48 (by decide)
theorem k51_49 : cod 51 49 = some (.iload_n 2, 1, 0, 0, 0, 0) := rfl
theorem e51_49 (a0 a1 : Option Value) (x : Int32) (ls : mL) (st : List Value) (σ : mS) : ev 51 49 (a0 :: a1 :: some (.int x) :: ls) st σ = ev 51 50 (a0 :: a1 :: some (.int x) :: ls) (.int x :: st) σ := e_iload1 k51_49 rfl
theorem k51_50 : cod 51 50 = some (.invokevirtual 61, 3, 50, 3, 0, 5) := rfl
theorem e51_50 (t : Nat) (x0 : Int32) (x1 : Int32) (x2 : Int32) (ls : mL) (st : List Value) (σ : mS) (hm : mCat st ≤ 8) : ev 51 50 ls (.int x2 :: .int x1 :: .int x0 :: .ref t :: st) σ = isC (σ.1 t) 5 ((evM 50 [.ref t, .int x0, .int x1, .int x2] σ).bind fun z => ev 51 53 ls (z.1.toList ++ st) z.2) := e_callVK k51_50 (by decide) rfl ⟨hm, Nat.le_of_ble_eq_true rfl⟩
theorem k51_53 : cod 51 53 = some (.goto (69), 3, 122, 0, 0, 0) := rfl
theorem e51_53 (ls : mL) (st : List Value) (σ : mS) : ev 51 53 ls st σ = ev 51 122 ls st σ := e_goto k51_53
theorem k51_56 : cod 51 56 = some (.aload_n 1, 1, 0, 0, 0, 0) := rfl
theorem e51_56 (a0 : Option Value) (x : Nat) (ls : mL) (st : List Value) (σ : mS) : ev 51 56 (a0 :: some (.ref x) :: ls) st σ = ev 51 57 (a0 :: some (.ref x) :: ls) (.ref x :: st) σ := e_aload1 k51_56 rfl
theorem k51_57 : cod 51 57 = some (.iload_n 2, 1, 0, 0, 0, 0) := rfl
theorem e51_57 (a0 a1 : Option Value) (x : Int32) (ls : mL) (st : List Value) (σ : mS) : ev 51 57 (a0 :: a1 :: some (.int x) :: ls) st σ = ev 51 58 (a0 :: a1 :: some (.int x) :: ls) (.int x :: st) σ := e_iload1 k51_57 rfl
theorem k51_58 : cod 51 58 = some (.iload_n 3, 1, 0, 0, 0, 0) := rfl
theorem e51_58 (a0 a1 a2 : Option Value) (x : Int32) (ls : mL) (st : List Value) (σ : mS) : ev 51 58 (a0 :: a1 :: a2 :: some (.int x) :: ls) st σ = ev 51 59 (a0 :: a1 :: a2 :: some (.int x) :: ls) (.int x :: st) σ := e_iload1 k51_58 rfl
theorem k51_59 : cod 51 59 = some (.ldc 81, 2, 1, 0, 1, 0) := rfl
theorem e51_59 (ls : mL) (st : List Value) (σ : mS) : ev 51 59 ls st σ = ev 51 61 ls (.float 1 :: st) σ := e_ldcS k51_59
theorem k51_61 : cod 51 61 = some (.invokestatic 77, 3, 52, 4, 0, 0) := rfl
theorem e51_61 (x0 : Nat) (x1 : Int32) (x2 : Int32) (x3 : UInt32) (ls : mL) (st : List Value) (σ : mS) (hm : mCat st ≤ 8) : ev 51 61 ls (.float x3 :: .int x2 :: .int x1 :: .ref x0 :: st) σ = (evM 52 [.ref x0, .int x1, .int x2, .float x3] σ).bind fun z => ev 51 64 ls (z.1.toList ++ st) z.2 := e_callS k51_61 (by decide) rfl ⟨hm, Nat.le_of_ble_eq_true rfl⟩
theorem k51_64 : cod 51 64 = some (.ifCond .eq (13), 3, 77, 0, 0, 0) := rfl
theorem e51_64 (x : Int32) (ls : mL) (st : List Value) (σ : mS) : ev 51 64 ls (.int x :: st) σ = if x = 0 then ev 51 77 ls st σ else ev 51 67 ls st σ := e_if_eq k51_64
theorem k51_67 : cod 51 67 = some (.aload_n 0, 1, 0, 0, 0, 0) := rfl
theorem e51_67 (x : Nat) (ls : mL) (st : List Value) (σ : mS) : ev 51 67 (some (.ref x) :: ls) st σ = ev 51 68 (some (.ref x) :: ls) (.ref x :: st) σ := e_aload1 k51_67 rfl
theorem k51_68 : cod 51 68 = some (.iconst 4, 1, 0, 0, 0, 0) := rfl
theorem e51_68 (ls : mL) (st : List Value) (σ : mS) : ev 51 68 ls st σ = ev 51 69 ls (.int 4 :: st) σ := e_iconst 4 k51_68 (by decide)
theorem k51_69 : cod 51 69 = some (.iconst 0, 1, 0, 0, 0, 0) := rfl
theorem e51_69 (ls : mL) (st : List Value) (σ : mS) : ev 51 69 ls st σ = ev 51 70 ls (.int 0 :: st) σ := e_iconst 0 k51_69 (by decide)
theorem k51_70 : cod 51 70 = some (.iload_n 2, 1, 0, 0, 0, 0) := rfl
theorem e51_70 (a0 a1 : Option Value) (x : Int32) (ls : mL) (st : List Value) (σ : mS) : ev 51 70 (a0 :: a1 :: some (.int x) :: ls) st σ = ev 51 71 (a0 :: a1 :: some (.int x) :: ls) (.int x :: st) σ := e_iload1 k51_70 rfl
theorem k51_71 : cod 51 71 = some (.invokevirtual 61, 3, 50, 3, 0, 5) := rfl
theorem e51_71 (t : Nat) (x0 : Int32) (x1 : Int32) (x2 : Int32) (ls : mL) (st : List Value) (σ : mS) (hm : mCat st ≤ 8) : ev 51 71 ls (.int x2 :: .int x1 :: .int x0 :: .ref t :: st) σ = isC (σ.1 t) 5 ((evM 50 [.ref t, .int x0, .int x1, .int x2] σ).bind fun z => ev 51 74 ls (z.1.toList ++ st) z.2) := e_callVK k51_71 (by decide) rfl ⟨hm, Nat.le_of_ble_eq_true rfl⟩
theorem k51_74 : cod 51 74 = some (.goto (48), 3, 122, 0, 0, 0) := rfl
theorem e51_74 (ls : mL) (st : List Value) (σ : mS) : ev 51 74 ls st σ = ev 51 122 ls st σ := e_goto k51_74
theorem k51_77 : cod 51 77 = some (.aload_n 1, 1, 0, 0, 0, 0) := rfl
theorem e51_77 (a0 : Option Value) (x : Nat) (ls : mL) (st : List Value) (σ : mS) : ev 51 77 (a0 :: some (.ref x) :: ls) st σ = ev 51 78 (a0 :: some (.ref x) :: ls) (.ref x :: st) σ := e_aload1 k51_77 rfl
theorem k51_78 : cod 51 78 = some (.iload_n 2, 1, 0, 0, 0, 0) := rfl
theorem e51_78 (a0 a1 : Option Value) (x : Int32) (ls : mL) (st : List Value) (σ : mS) : ev 51 78 (a0 :: a1 :: some (.int x) :: ls) st σ = ev 51 79 (a0 :: a1 :: some (.int x) :: ls) (.int x :: st) σ := e_iload1 k51_78 rfl
theorem k51_79 : cod 51 79 = some (.iload_n 3, 1, 0, 0, 0, 0) := rfl
theorem e51_79 (a0 a1 a2 : Option Value) (x : Int32) (ls : mL) (st : List Value) (σ : mS) : ev 51 79 (a0 :: a1 :: a2 :: some (.int x) :: ls) st σ = ev 51 80 (a0 :: a1 :: a2 :: some (.int x) :: ls) (.int x :: st) σ := e_iload1 k51_79 rfl
theorem k51_80 : cod 51 80 = some (.ldc 83, 2, 2, 0, 1, 0) := rfl
theorem e51_80 (ls : mL) (st : List Value) (σ : mS) : ev 51 80 ls st σ = ev 51 82 ls (.float 2 :: st) σ := e_ldcS k51_80
theorem k51_82 : cod 51 82 = some (.invokestatic 77, 3, 52, 4, 0, 0) := rfl
theorem e51_82 (x0 : Nat) (x1 : Int32) (x2 : Int32) (x3 : UInt32) (ls : mL) (st : List Value) (σ : mS) (hm : mCat st ≤ 8) : ev 51 82 ls (.float x3 :: .int x2 :: .int x1 :: .ref x0 :: st) σ = (evM 52 [.ref x0, .int x1, .int x2, .float x3] σ).bind fun z => ev 51 85 ls (z.1.toList ++ st) z.2 := e_callS k51_82 (by decide) rfl ⟨hm, Nat.le_of_ble_eq_true rfl⟩
theorem k51_85 : cod 51 85 = some (.ifCond .eq (13), 3, 98, 0, 0, 0) := rfl
theorem e51_85 (x : Int32) (ls : mL) (st : List Value) (σ : mS) : ev 51 85 ls (.int x :: st) σ = if x = 0 then ev 51 98 ls st σ else ev 51 88 ls st σ := e_if_eq k51_85
theorem k51_88 : cod 51 88 = some (.aload_n 0, 1, 0, 0, 0, 0) := rfl
theorem e51_88 (x : Nat) (ls : mL) (st : List Value) (σ : mS) : ev 51 88 (some (.ref x) :: ls) st σ = ev 51 89 (some (.ref x) :: ls) (.ref x :: st) σ := e_aload1 k51_88 rfl
theorem k51_89 : cod 51 89 = some (.iconst 5, 1, 0, 0, 0, 0) := rfl
theorem e51_89 (ls : mL) (st : List Value) (σ : mS) : ev 51 89 ls st σ = ev 51 90 ls (.int 5 :: st) σ := e_iconst 5 k51_89 (by decide)
theorem k51_90 : cod 51 90 = some (.iconst 0, 1, 0, 0, 0, 0) := rfl
theorem e51_90 (ls : mL) (st : List Value) (σ : mS) : ev 51 90 ls st σ = ev 51 91 ls (.int 0 :: st) σ := e_iconst 0 k51_90 (by decide)
theorem k51_91 : cod 51 91 = some (.iload_n 2, 1, 0, 0, 0, 0) := rfl
theorem e51_91 (a0 a1 : Option Value) (x : Int32) (ls : mL) (st : List Value) (σ : mS) : ev 51 91 (a0 :: a1 :: some (.int x) :: ls) st σ = ev 51 92 (a0 :: a1 :: some (.int x) :: ls) (.int x :: st) σ := e_iload1 k51_91 rfl
theorem k51_92 : cod 51 92 = some (.invokevirtual 61, 3, 50, 3, 0, 5) := rfl
theorem e51_92 (t : Nat) (x0 : Int32) (x1 : Int32) (x2 : Int32) (ls : mL) (st : List Value) (σ : mS) (hm : mCat st ≤ 8) : ev 51 92 ls (.int x2 :: .int x1 :: .int x0 :: .ref t :: st) σ = isC (σ.1 t) 5 ((evM 50 [.ref t, .int x0, .int x1, .int x2] σ).bind fun z => ev 51 95 ls (z.1.toList ++ st) z.2) := e_callVK k51_92 (by decide) rfl ⟨hm, Nat.le_of_ble_eq_true rfl⟩
theorem k51_95 : cod 51 95 = some (.goto (27), 3, 122, 0, 0, 0) := rfl
theorem e51_95 (ls : mL) (st : List Value) (σ : mS) : ev 51 95 ls st σ = ev 51 122 ls st σ := e_goto k51_95
theorem k51_98 : cod 51 98 = some (.aload_n 0, 1, 0, 0, 0, 0) := rfl
theorem e51_98 (x : Nat) (ls : mL) (st : List Value) (σ : mS) : ev 51 98 (some (.ref x) :: ls) st σ = ev 51 99 (some (.ref x) :: ls) (.ref x :: st) σ := e_aload1 k51_98 rfl
theorem k51_99 : cod 51 99 = some (.aload_n 1, 1, 0, 0, 0, 0) := rfl
theorem e51_99 (a0 : Option Value) (x : Nat) (ls : mL) (st : List Value) (σ : mS) : ev 51 99 (a0 :: some (.ref x) :: ls) st σ = ev 51 100 (a0 :: some (.ref x) :: ls) (.ref x :: st) σ := e_aload1 k51_99 rfl
theorem k51_100 : cod 51 100 = some (.iload_n 2, 1, 0, 0, 0, 0) := rfl
theorem e51_100 (a0 a1 : Option Value) (x : Int32) (ls : mL) (st : List Value) (σ : mS) : ev 51 100 (a0 :: a1 :: some (.int x) :: ls) st σ = ev 51 101 (a0 :: a1 :: some (.int x) :: ls) (.int x :: st) σ := e_iload1 k51_100 rfl
theorem k51_101 : cod 51 101 = some (.iload_n 3, 1, 0, 0, 0, 0) := rfl
theorem e51_101 (a0 a1 a2 : Option Value) (x : Int32) (ls : mL) (st : List Value) (σ : mS) : ev 51 101 (a0 :: a1 :: a2 :: some (.int x) :: ls) st σ = ev 51 102 (a0 :: a1 :: a2 :: some (.int x) :: ls) (.int x :: st) σ := e_iload1 k51_101 rfl
theorem k51_102 : cod 51 102 = some (.ldc 85, 2, 3, 0, 1, 0) := rfl
theorem e51_102 (ls : mL) (st : List Value) (σ : mS) : ev 51 102 ls st σ = ev 51 104 ls (.float 3 :: st) σ := e_ldcS k51_102
theorem k51_104 : cod 51 104 = some (.invokestatic 77, 3, 52, 4, 0, 0) := rfl
theorem e51_104 (x0 : Nat) (x1 : Int32) (x2 : Int32) (x3 : UInt32) (ls : mL) (st : List Value) (σ : mS) (hm : mCat st ≤ 8) : ev 51 104 ls (.float x3 :: .int x2 :: .int x1 :: .ref x0 :: st) σ = (evM 52 [.ref x0, .int x1, .int x2, .float x3] σ).bind fun z => ev 51 107 ls (z.1.toList ++ st) z.2 := e_callS k51_104 (by decide) rfl ⟨hm, Nat.le_of_ble_eq_true rfl⟩
theorem k51_107 : cod 51 107 = some (.ifCond .eq (8), 3, 115, 0, 0, 0) := rfl
theorem e51_107 (x : Int32) (ls : mL) (st : List Value) (σ : mS) : ev 51 107 ls (.int x :: st) σ = if x = 0 then ev 51 115 ls st σ else ev 51 110 ls st σ := e_if_eq k51_107
theorem k51_110 : cod 51 110 = some (.bipush (6), 2, 0, 0, 0, 0) := rfl
theorem e51_110 (ls : mL) (st : List Value) (σ : mS) : ev 51 110 ls st σ = ev 51 112 ls (.int 6 :: st) σ := e_bipush 6 k51_110 (by decide)
theorem k51_112 : cod 51 112 = some (.goto (5), 3, 117, 0, 0, 0) := rfl
theorem e51_112 (ls : mL) (st : List Value) (σ : mS) : ev 51 112 ls st σ = ev 51 117 ls st σ := e_goto k51_112
theorem k51_115 : cod 51 115 = some (.bipush (9), 2, 0, 0, 0, 0) := rfl
theorem e51_115 (ls : mL) (st : List Value) (σ : mS) : ev 51 115 ls st σ = ev 51 117 ls (.int 9 :: st) σ := e_bipush 9 k51_115 (by decide)
theorem k51_117 : cod 51 117 = some (.iconst 0, 1, 0, 0, 0, 0) := rfl
theorem e51_117 (ls : mL) (st : List Value) (σ : mS) : ev 51 117 ls st σ = ev 51 118 ls (.int 0 :: st) σ := e_iconst 0 k51_117 (by decide)
theorem k51_118 : cod 51 118 = some (.iload_n 2, 1, 0, 0, 0, 0) := rfl
theorem e51_118 (a0 a1 : Option Value) (x : Int32) (ls : mL) (st : List Value) (σ : mS) : ev 51 118 (a0 :: a1 :: some (.int x) :: ls) st σ = ev 51 119 (a0 :: a1 :: some (.int x) :: ls) (.int x :: st) σ := e_iload1 k51_118 rfl
theorem k51_119 : cod 51 119 = some (.invokevirtual 61, 3, 50, 3, 0, 5) := rfl
theorem e51_119 (t : Nat) (x0 : Int32) (x1 : Int32) (x2 : Int32) (ls : mL) (st : List Value) (σ : mS) (hm : mCat st ≤ 8) : ev 51 119 ls (.int x2 :: .int x1 :: .int x0 :: .ref t :: st) σ = isC (σ.1 t) 5 ((evM 50 [.ref t, .int x0, .int x1, .int x2] σ).bind fun z => ev 51 122 ls (z.1.toList ++ st) z.2) := e_callVK k51_119 (by decide) rfl ⟨hm, Nat.le_of_ble_eq_true rfl⟩
theorem k51_122 : cod 51 122 = some (.return_, 1, 0, 0, 0, 0) := rfl
theorem e51_122 (ls : mL) (σ : mS) : ev 51 122 ls [] σ = some (none, σ) := e_vret k51_122 rfl
theorem m51 (t : Nat) (x0 : Nat) (x1 : Int32) (x2 : Int32) (σ : mS) : evM 51 [.ref t, .ref x0, .int x1, .int x2] σ = ev 51 0 [some (.ref t), some (.ref x0), some (.int x1), some (.int x2), none] [] σ := rfl
theorem k52_0 : cod 52 0 = some (.iload_n 2, 1, 0, 0, 0, 0) := rfl
theorem e52_0 (a0 a1 : Option Value) (x : Int32) (ls : mL) (st : List Value) (σ : mS) : ev 52 0 (a0 :: a1 :: some (.int x) :: ls) st σ = ev 52 1 (a0 :: a1 :: some (.int x) :: ls) (.int x :: st) σ := e_iload1 k52_0 rfl
theorem k52_1 : cod 52 1 = some (.iload_n 1, 1, 0, 0, 0, 0) := rfl
theorem e52_1 (a0 : Option Value) (x : Int32) (ls : mL) (st : List Value) (σ : mS) : ev 52 1 (a0 :: some (.int x) :: ls) st σ = ev 52 2 (a0 :: some (.int x) :: ls) (.int x :: st) σ := e_iload1 k52_1 rfl
theorem k52_2 : cod 52 2 = some (.isub, 1, 0, 0, 0, 0) := rfl
theorem e52_2 (x y : Int32) (ls : mL) (st : List Value) (σ : mS) : ev 52 2 ls (.int y :: .int x :: st) σ = ev 52 3 ls (.int (x - y) :: st) σ := e_isub k52_2
theorem k52_3 : cod 52 3 = some (.aload_n 3, 1, 0, 0, 0, 0) := rfl
theorem e52_3 (a0 a1 a2 : Option Value) (x : Nat) (ls : mL) (st : List Value) (σ : mS) : ev 52 3 (a0 :: a1 :: a2 :: some (.ref x) :: ls) st σ = ev 52 4 (a0 :: a1 :: a2 :: some (.ref x) :: ls) (.ref x :: st) σ := e_aload1 k52_3 rfl
theorem e52_3f (a0 a1 a2 : Option Value) (x : UInt32) (ls : mL) (st : List Value) (σ : mS) : ev 52 3 (a0 :: a1 :: a2 :: some (.float x) :: ls) st σ = ev 52 4 (a0 :: a1 :: a2 :: some (.float x) :: ls) (.float x :: st) σ := e_fload1 k52_3 rfl
theorem k52_4 : cod 52 4 = some (.invokevirtual 87, 3, 0, 0, 7, 0) := rfl
theorem e52_4 (z : UInt32) (ls : mL) (st : List Value) (σ : mS) (hz : z.toNat < 4 ∧ mCat st ≤ 8) : ev 52 4 ls (.float z :: st) σ = ev 52 7 ls (.int (Int32.ofNat (sBy z.toNat).length) :: st) σ := e_slength k52_4 hz
theorem k52_7 : cod 52 7 = some (.if_icmp .eq (5), 3, 12, 0, 0, 0) := rfl
theorem e52_7 (x y : Int32) (ls : mL) (st : List Value) (σ : mS) : ev 52 7 ls (.int y :: .int x :: st) σ = if x = y then ev 52 12 ls st σ else ev 52 10 ls st σ := e_ic_eq k52_7
theorem k52_10 : cod 52 10 = some (.iconst 0, 1, 0, 0, 0, 0) := rfl
theorem e52_10 (ls : mL) (st : List Value) (σ : mS) : ev 52 10 ls st σ = ev 52 11 ls (.int 0 :: st) σ := e_iconst 0 k52_10 (by decide)
theorem k52_11 : cod 52 11 = some (.ireturn, 1, 0, 0, 0, 0) := rfl
theorem e52_11 (x : Int32) (ls : mL) (σ : mS) : ev 52 11 ls [.int x] σ = if x = 0 ∨ x = 1 then some (some (.int x), σ) else none := e_zret k52_11 rfl
theorem e52_11b0 (ls : mL) (σ : mS) : ev 52 11 ls [.int 0] σ = some (some (.int 0), σ) := (e_zret k52_11 rfl).trans (if_pos (Or.inl rfl))
theorem e52_11b1 (ls : mL) (σ : mS) : ev 52 11 ls [.int 1] σ = some (some (.int 1), σ) := (e_zret k52_11 rfl).trans (if_pos (Or.inr rfl))
theorem k52_12 : cod 52 12 = some (.iconst 0, 1, 0, 0, 0, 0) := rfl
theorem e52_12 (ls : mL) (st : List Value) (σ : mS) : ev 52 12 ls st σ = ev 52 13 ls (.int 0 :: st) σ := e_iconst 0 k52_12 (by decide)
theorem k52_13 : cod 52 13 = some (.istore 4, 2, 0, 0, 0, 0) := rfl
theorem e52_13i (a0 a1 a2 : Option Value) (y : Int32) (o : Option Value) (x : Int32) (ls : mL) (st : List Value) (σ : mS) : ev 52 13 (a0 :: a1 :: a2 :: some (.int y) :: o :: ls) (.int x :: st) σ = ev 52 15 (a0 :: a1 :: a2 :: some (.int y) :: some (.int x) :: ls) st σ := e_istore0 k52_13 (Nat.le_add_left 5 ls.length)
theorem e52_13n (a0 a1 a2 : Option Value) (o : Option Value) (x : Int32) (ls : mL) (st : List Value) (σ : mS) : ev 52 13 (a0 :: a1 :: a2 :: none :: o :: ls) (.int x :: st) σ = ev 52 15 (a0 :: a1 :: a2 :: none :: some (.int x) :: ls) st σ := e_istore0 k52_13 (Nat.le_add_left 5 ls.length)
theorem e52_13r (a0 a1 a2 : Option Value) (y : Nat) (o : Option Value) (x : Int32) (ls : mL) (st : List Value) (σ : mS) : ev 52 13 (a0 :: a1 :: a2 :: some (.ref y) :: o :: ls) (.int x :: st) σ = ev 52 15 (a0 :: a1 :: a2 :: some (.ref y) :: some (.int x) :: ls) st σ := e_istore0 k52_13 (Nat.le_add_left 5 ls.length)
theorem k52_15 : cod 52 15 = some (.iload 4, 2, 0, 0, 0, 0) := rfl
theorem e52_15 (a0 a1 a2 a3 : Option Value) (x : Int32) (ls : mL) (st : List Value) (σ : mS) : ev 52 15 (a0 :: a1 :: a2 :: a3 :: some (.int x) :: ls) st σ = ev 52 17 (a0 :: a1 :: a2 :: a3 :: some (.int x) :: ls) (.int x :: st) σ := e_iload0 k52_15 rfl
theorem k52_17 : cod 52 17 = some (.aload_n 3, 1, 0, 0, 0, 0) := rfl
theorem e52_17 (a0 a1 a2 : Option Value) (x : Nat) (ls : mL) (st : List Value) (σ : mS) : ev 52 17 (a0 :: a1 :: a2 :: some (.ref x) :: ls) st σ = ev 52 18 (a0 :: a1 :: a2 :: some (.ref x) :: ls) (.ref x :: st) σ := e_aload1 k52_17 rfl
theorem e52_17f (a0 a1 a2 : Option Value) (x : UInt32) (ls : mL) (st : List Value) (σ : mS) : ev 52 17 (a0 :: a1 :: a2 :: some (.float x) :: ls) st σ = ev 52 18 (a0 :: a1 :: a2 :: some (.float x) :: ls) (.float x :: st) σ := e_fload1 k52_17 rfl
theorem k52_18 : cod 52 18 = some (.invokevirtual 87, 3, 0, 0, 7, 0) := rfl
theorem e52_18 (z : UInt32) (ls : mL) (st : List Value) (σ : mS) (hz : z.toNat < 4 ∧ mCat st ≤ 8) : ev 52 18 ls (.float z :: st) σ = ev 52 21 ls (.int (Int32.ofNat (sBy z.toNat).length) :: st) σ := e_slength k52_18 hz
theorem k52_21 : cod 52 21 = some (.if_icmp .ge (28), 3, 49, 0, 0, 0) := rfl
theorem e52_21 (x y : Int32) (ls : mL) (st : List Value) (σ : mS) : ev 52 21 ls (.int y :: .int x :: st) σ = if y ≤ x then ev 52 49 ls st σ else ev 52 24 ls st σ := e_ic_ge k52_21
theorem k52_24 : cod 52 24 = some (.aload_n 0, 1, 0, 0, 0, 0) := rfl
theorem e52_24 (x : Nat) (ls : mL) (st : List Value) (σ : mS) : ev 52 24 (some (.ref x) :: ls) st σ = ev 52 25 (some (.ref x) :: ls) (.ref x :: st) σ := e_aload1 k52_24 rfl
theorem e52_24f (x : UInt32) (ls : mL) (st : List Value) (σ : mS) : ev 52 24 (some (.float x) :: ls) st σ = ev 52 25 (some (.float x) :: ls) (.float x :: st) σ := e_fload1 k52_24 rfl
theorem k52_25 : cod 52 25 = some (.iload_n 1, 1, 0, 0, 0, 0) := rfl
theorem e52_25 (a0 : Option Value) (x : Int32) (ls : mL) (st : List Value) (σ : mS) : ev 52 25 (a0 :: some (.int x) :: ls) st σ = ev 52 26 (a0 :: some (.int x) :: ls) (.int x :: st) σ := e_iload1 k52_25 rfl
theorem k52_26 : cod 52 26 = some (.iload 4, 2, 0, 0, 0, 0) := rfl
theorem e52_26 (a0 a1 a2 a3 : Option Value) (x : Int32) (ls : mL) (st : List Value) (σ : mS) : ev 52 26 (a0 :: a1 :: a2 :: a3 :: some (.int x) :: ls) st σ = ev 52 28 (a0 :: a1 :: a2 :: a3 :: some (.int x) :: ls) (.int x :: st) σ := e_iload0 k52_26 rfl
theorem k52_28 : cod 52 28 = some (.iadd, 1, 0, 0, 0, 0) := rfl
theorem e52_28 (x y : Int32) (ls : mL) (st : List Value) (σ : mS) : ev 52 28 ls (.int y :: .int x :: st) σ = ev 52 29 ls (.int (x + y) :: st) σ := e_iadd k52_28
theorem k52_29 : cod 52 29 = some (.invokevirtual 43, 3, 43, 1, 0, 4) := rfl
theorem e52_29 (t : Nat) (x0 : Int32) (ls : mL) (st : List Value) (σ : mS) (hm : mCat st ≤ 8) : ev 52 29 ls (.int x0 :: .ref t :: st) σ = isC (σ.1 t) 4 ((evM 43 [.ref t, .int x0] σ).bind fun z => ev 52 32 ls (z.1.toList ++ st) z.2) := e_callVK k52_29 (by decide) rfl ⟨hm, Nat.le_of_ble_eq_true rfl⟩
theorem k52_32 : cod 52 32 = some (.aload_n 3, 1, 0, 0, 0, 0) := rfl
theorem e52_32 (a0 a1 a2 : Option Value) (x : Nat) (ls : mL) (st : List Value) (σ : mS) : ev 52 32 (a0 :: a1 :: a2 :: some (.ref x) :: ls) st σ = ev 52 33 (a0 :: a1 :: a2 :: some (.ref x) :: ls) (.ref x :: st) σ := e_aload1 k52_32 rfl
theorem e52_32f (a0 a1 a2 : Option Value) (x : UInt32) (ls : mL) (st : List Value) (σ : mS) : ev 52 32 (a0 :: a1 :: a2 :: some (.float x) :: ls) st σ = ev 52 33 (a0 :: a1 :: a2 :: some (.float x) :: ls) (.float x :: st) σ := e_fload1 k52_32 rfl
theorem k52_33 : cod 52 33 = some (.iload 4, 2, 0, 0, 0, 0) := rfl
theorem e52_33 (a0 a1 a2 a3 : Option Value) (x : Int32) (ls : mL) (st : List Value) (σ : mS) : ev 52 33 (a0 :: a1 :: a2 :: a3 :: some (.int x) :: ls) st σ = ev 52 35 (a0 :: a1 :: a2 :: a3 :: some (.int x) :: ls) (.int x :: st) σ := e_iload0 k52_33 rfl
theorem k52_35 : cod 52 35 = some (.invokevirtual 91, 3, 0, 0, 8, 0) := rfl
theorem e52_35 (z : UInt32) (j : Int32) (ls : mL) (st : List Value) (σ : mS) (hz : z.toNat < 4 ∧ ¬ (j < 0 ∨ (sBy z.toNat).length ≤ j.toNatClampNeg) ∧ mCat st ≤ 8) : ev 52 35 ls (.int j :: .float z :: st) σ = ev 52 38 ls (.int ((sBy z.toNat).getD j.toNatClampNeg 0) :: st) σ := e_scharAt k52_35 hz
theorem k52_38 : cod 52 38 = some (.if_icmp .eq (5), 3, 43, 0, 0, 0) := rfl
theorem e52_38 (x y : Int32) (ls : mL) (st : List Value) (σ : mS) : ev 52 38 ls (.int y :: .int x :: st) σ = if x = y then ev 52 43 ls st σ else ev 52 41 ls st σ := e_ic_eq k52_38
theorem k52_41 : cod 52 41 = some (.iconst 0, 1, 0, 0, 0, 0) := rfl
theorem e52_41 (ls : mL) (st : List Value) (σ : mS) : ev 52 41 ls st σ = ev 52 42 ls (.int 0 :: st) σ := e_iconst 0 k52_41 (by decide)
theorem k52_42 : cod 52 42 = some (.ireturn, 1, 0, 0, 0, 0) := rfl
theorem e52_42 (x : Int32) (ls : mL) (σ : mS) : ev 52 42 ls [.int x] σ = if x = 0 ∨ x = 1 then some (some (.int x), σ) else none := e_zret k52_42 rfl
theorem e52_42b0 (ls : mL) (σ : mS) : ev 52 42 ls [.int 0] σ = some (some (.int 0), σ) := (e_zret k52_42 rfl).trans (if_pos (Or.inl rfl))
theorem e52_42b1 (ls : mL) (σ : mS) : ev 52 42 ls [.int 1] σ = some (some (.int 1), σ) := (e_zret k52_42 rfl).trans (if_pos (Or.inr rfl))
theorem k52_43 : cod 52 43 = some (.iinc 4 (1), 3, 0, 0, 0, 0) := rfl
theorem e52_43i (a0 a1 a2 : Option Value) (y : Int32) (x : Int32) (ls : mL) (st : List Value) (σ : mS) : ev 52 43 (a0 :: a1 :: a2 :: some (.int y) :: some (.int x) :: ls) st σ = ev 52 46 (a0 :: a1 :: a2 :: some (.int y) :: some (.int (x + 1)) :: ls) st σ := e_iinc 1 k52_43 (by decide) rfl
theorem e52_43n (a0 a1 a2 : Option Value) (x : Int32) (ls : mL) (st : List Value) (σ : mS) : ev 52 43 (a0 :: a1 :: a2 :: none :: some (.int x) :: ls) st σ = ev 52 46 (a0 :: a1 :: a2 :: none :: some (.int (x + 1)) :: ls) st σ := e_iinc 1 k52_43 (by decide) rfl
theorem e52_43r (a0 a1 a2 : Option Value) (y : Nat) (x : Int32) (ls : mL) (st : List Value) (σ : mS) : ev 52 43 (a0 :: a1 :: a2 :: some (.ref y) :: some (.int x) :: ls) st σ = ev 52 46 (a0 :: a1 :: a2 :: some (.ref y) :: some (.int (x + 1)) :: ls) st σ := e_iinc 1 k52_43 (by decide) rfl
theorem k52_46 : cod 52 46 = some (.goto (-31), 3, 15, 0, 0, 0) := rfl
theorem e52_46 (ls : mL) (st : List Value) (σ : mS) : ev 52 46 ls st σ = ev 52 15 ls st σ := e_goto k52_46
theorem k52_49 : cod 52 49 = some (.iconst 1, 1, 0, 0, 0, 0) := rfl
theorem e52_49 (ls : mL) (st : List Value) (σ : mS) : ev 52 49 ls st σ = ev 52 50 ls (.int 1 :: st) σ := e_iconst 1 k52_49 (by decide)
theorem k52_50 : cod 52 50 = some (.ireturn, 1, 0, 0, 0, 0) := rfl
theorem e52_50 (x : Int32) (ls : mL) (σ : mS) : ev 52 50 ls [.int x] σ = if x = 0 ∨ x = 1 then some (some (.int x), σ) else none := e_zret k52_50 rfl
theorem e52_50b0 (ls : mL) (σ : mS) : ev 52 50 ls [.int 0] σ = some (some (.int 0), σ) := (e_zret k52_50 rfl).trans (if_pos (Or.inl rfl))
theorem e52_50b1 (ls : mL) (σ : mS) : ev 52 50 ls [.int 1] σ = some (some (.int 1), σ) := (e_zret k52_50 rfl).trans (if_pos (Or.inr rfl))
theorem m52 (x0 : Nat) (x1 : Int32) (x2 : Int32) (x3 : UInt32) (σ : mS) : evM 52 [.ref x0, .int x1, .int x2, .float x3] σ = ev 52 0 [some (.ref x0), some (.int x1), some (.int x2), some (.float x3), none] [] σ := rfl
theorem k53_0 : cod 53 0 = some (.aload_n 0, 1, 0, 0, 0, 0) := rfl
theorem e53_0 (x : Nat) (ls : mL) (st : List Value) (σ : mS) : ev 53 0 (some (.ref x) :: ls) st σ = ev 53 1 (some (.ref x) :: ls) (.ref x :: st) σ := e_aload1 k53_0 rfl
theorem k53_1 : cod 53 1 = some (.getfield 25, 3, 5, 4, 0, 0) := rfl
theorem e53_1 (t : Nat) (ls : mL) (st : List Value) (σ : mS) : ev 53 1 ls (.ref t :: st) σ = gfK (σ.1 t) 5 4 (fun v => ev 53 4 ls (v :: st) σ) := e_getf k53_1
theorem k53_4 : cod 53 4 = some (.ifCond .lt (36), 3, 40, 0, 0, 0) := rfl
theorem e53_4 (x : Int32) (ls : mL) (st : List Value) (σ : mS) : ev 53 4 ls (.int x :: st) σ = if x < 0 then ev 53 40 ls st σ else ev 53 7 ls st σ := e_if_lt k53_4
theorem k53_7 : cod 53 7 = some (.aload_n 0, 1, 0, 0, 0, 0) := rfl
theorem e53_7 (x : Nat) (ls : mL) (st : List Value) (σ : mS) : ev 53 7 (some (.ref x) :: ls) st σ = ev 53 8 (some (.ref x) :: ls) (.ref x :: st) σ := e_aload1 k53_7 rfl
theorem k53_8 : cod 53 8 = some (.getfield 25, 3, 5, 4, 0, 0) := rfl
theorem e53_8 (t : Nat) (ls : mL) (st : List Value) (σ : mS) : ev 53 8 ls (.ref t :: st) σ = gfK (σ.1 t) 5 4 (fun v => ev 53 11 ls (v :: st) σ) := e_getf k53_8
theorem k53_11 : cod 53 11 = some (.aload_n 0, 1, 0, 0, 0, 0) := rfl
theorem e53_11 (x : Nat) (ls : mL) (st : List Value) (σ : mS) : ev 53 11 (some (.ref x) :: ls) st σ = ev 53 12 (some (.ref x) :: ls) (.ref x :: st) σ := e_aload1 k53_11 rfl
theorem k53_12 : cod 53 12 = some (.getfield 21, 3, 5, 3, 0, 0) := rfl
theorem e53_12 (t : Nat) (ls : mL) (st : List Value) (σ : mS) : ev 53 12 ls (.ref t :: st) σ = gfK (σ.1 t) 5 3 (fun v => ev 53 15 ls (v :: st) σ) := e_getf k53_12
theorem k53_15 : cod 53 15 = some (.if_icmp .ge (25), 3, 40, 0, 0, 0) := rfl
theorem e53_15 (x y : Int32) (ls : mL) (st : List Value) (σ : mS) : ev 53 15 ls (.int y :: .int x :: st) σ = if y ≤ x then ev 53 40 ls st σ else ev 53 18 ls st σ := e_ic_ge k53_15
theorem k53_18 : cod 53 18 = some (.aload_n 0, 1, 0, 0, 0, 0) := rfl
theorem e53_18 (x : Nat) (ls : mL) (st : List Value) (σ : mS) : ev 53 18 (some (.ref x) :: ls) st σ = ev 53 19 (some (.ref x) :: ls) (.ref x :: st) σ := e_aload1 k53_18 rfl
theorem k53_19 : cod 53 19 = some (.getfield 25, 3, 5, 4, 0, 0) := rfl
theorem e53_19 (t : Nat) (ls : mL) (st : List Value) (σ : mS) : ev 53 19 ls (.ref t :: st) σ = gfK (σ.1 t) 5 4 (fun v => ev 53 22 ls (v :: st) σ) := e_getf k53_19
theorem k53_22 : cod 53 22 = some (.sipush (600), 3, 0, 0, 0, 0) := rfl
theorem e53_22 (ls : mL) (st : List Value) (σ : mS) : ev 53 22 ls st σ = ev 53 25 ls (.int 600 :: st) σ := e_sipush 600 k53_22 (by decide)
theorem k53_25 : cod 53 25 = some (.if_icmp .gt (15), 3, 40, 0, 0, 0) := rfl
theorem e53_25 (x y : Int32) (ls : mL) (st : List Value) (σ : mS) : ev 53 25 ls (.int y :: .int x :: st) σ = if y < x then ev 53 40 ls st σ else ev 53 28 ls st σ := e_ic_gt k53_25
theorem k53_28 : cod 53 28 = some (.aload_n 0, 1, 0, 0, 0, 0) := rfl
theorem e53_28 (x : Nat) (ls : mL) (st : List Value) (σ : mS) : ev 53 28 (some (.ref x) :: ls) st σ = ev 53 29 (some (.ref x) :: ls) (.ref x :: st) σ := e_aload1 k53_28 rfl
theorem k53_29 : cod 53 29 = some (.getfield 9, 3, 5, 0, 0, 3) := rfl
theorem e53_29 (t : Nat) (ls : mL) (st : List Value) (σ : mS) : ev 53 29 ls (.ref t :: st) σ = gfK (σ.1 t) 5 0 (fun v => ev 53 32 ls (v :: st) σ) := e_getf k53_29
theorem k53_32 : cod 53 32 = some (.aload_n 0, 1, 0, 0, 0, 0) := rfl
theorem e53_32 (x : Nat) (ls : mL) (st : List Value) (σ : mS) : ev 53 32 (some (.ref x) :: ls) st σ = ev 53 33 (some (.ref x) :: ls) (.ref x :: st) σ := e_aload1 k53_32 rfl
theorem k53_33 : cod 53 33 = some (.getfield 25, 3, 5, 4, 0, 0) := rfl
theorem e53_33 (t : Nat) (ls : mL) (st : List Value) (σ : mS) : ev 53 33 ls (.ref t :: st) σ = gfK (σ.1 t) 5 4 (fun v => ev 53 36 ls (v :: st) σ) := e_getf k53_33
theorem k53_36 : cod 53 36 = some (.iaload, 1, 0, 0, 0, 0) := rfl
theorem e53_36 (j : Int32) (t : Nat) (ls : mL) (st : List Value) (σ : mS) : ev 53 36 ls (.int j :: .ref t :: st) σ = alK (σ.1 t) 0 j (fun v => ev 53 37 ls (.int v :: st) σ) := e_iald k53_36
theorem k53_37 : cod 53 37 = some (.goto (4), 3, 41, 0, 0, 0) := rfl
theorem e53_37 (ls : mL) (st : List Value) (σ : mS) : ev 53 37 ls st σ = ev 53 41 ls st σ := e_goto k53_37
theorem k53_40 : cod 53 40 = some (.iconst 0, 1, 0, 0, 0, 0) := rfl
theorem e53_40 (ls : mL) (st : List Value) (σ : mS) : ev 53 40 ls st σ = ev 53 41 ls (.int 0 :: st) σ := e_iconst 0 k53_40 (by decide)
theorem k53_41 : cod 53 41 = some (.ireturn, 1, 0, 0, 0, 0) := rfl
theorem e53_41 (x : Int32) (ls : mL) (σ : mS) : ev 53 41 ls [.int x] σ = some (some (.int x), σ) := e_iret k53_41 rfl
theorem m53 (t : Nat) (σ : mS) : evM 53 [.ref t] σ = ev 53 0 [some (.ref t)] [] σ := rfl
theorem k54_0 : cod 54 0 = some (.aload_n 0, 1, 0, 0, 0, 0) := rfl
theorem e54_0 (x : Nat) (ls : mL) (st : List Value) (σ : mS) : ev 54 0 (some (.ref x) :: ls) st σ = ev 54 1 (some (.ref x) :: ls) (.ref x :: st) σ := e_aload1 k54_0 rfl
theorem k54_1 : cod 54 1 = some (.getfield 25, 3, 5, 4, 0, 0) := rfl
theorem e54_1 (t : Nat) (ls : mL) (st : List Value) (σ : mS) : ev 54 1 ls (.ref t :: st) σ = gfK (σ.1 t) 5 4 (fun v => ev 54 4 ls (v :: st) σ) := e_getf k54_1
theorem k54_4 : cod 54 4 = some (.ifCond .lt (36), 3, 40, 0, 0, 0) := rfl
theorem e54_4 (x : Int32) (ls : mL) (st : List Value) (σ : mS) : ev 54 4 ls (.int x :: st) σ = if x < 0 then ev 54 40 ls st σ else ev 54 7 ls st σ := e_if_lt k54_4
theorem k54_7 : cod 54 7 = some (.aload_n 0, 1, 0, 0, 0, 0) := rfl
theorem e54_7 (x : Nat) (ls : mL) (st : List Value) (σ : mS) : ev 54 7 (some (.ref x) :: ls) st σ = ev 54 8 (some (.ref x) :: ls) (.ref x :: st) σ := e_aload1 k54_7 rfl
theorem k54_8 : cod 54 8 = some (.getfield 25, 3, 5, 4, 0, 0) := rfl
theorem e54_8 (t : Nat) (ls : mL) (st : List Value) (σ : mS) : ev 54 8 ls (.ref t :: st) σ = gfK (σ.1 t) 5 4 (fun v => ev 54 11 ls (v :: st) σ) := e_getf k54_8
theorem k54_11 : cod 54 11 = some (.aload_n 0, 1, 0, 0, 0, 0) := rfl
theorem e54_11 (x : Nat) (ls : mL) (st : List Value) (σ : mS) : ev 54 11 (some (.ref x) :: ls) st σ = ev 54 12 (some (.ref x) :: ls) (.ref x :: st) σ := e_aload1 k54_11 rfl
theorem k54_12 : cod 54 12 = some (.getfield 21, 3, 5, 3, 0, 0) := rfl
theorem e54_12 (t : Nat) (ls : mL) (st : List Value) (σ : mS) : ev 54 12 ls (.ref t :: st) σ = gfK (σ.1 t) 5 3 (fun v => ev 54 15 ls (v :: st) σ) := e_getf k54_12
theorem k54_15 : cod 54 15 = some (.if_icmp .ge (25), 3, 40, 0, 0, 0) := rfl
theorem e54_15 (x y : Int32) (ls : mL) (st : List Value) (σ : mS) : ev 54 15 ls (.int y :: .int x :: st) σ = if y ≤ x then ev 54 40 ls st σ else ev 54 18 ls st σ := e_ic_ge k54_15
theorem k54_18 : cod 54 18 = some (.aload_n 0, 1, 0, 0, 0, 0) := rfl
theorem e54_18 (x : Nat) (ls : mL) (st : List Value) (σ : mS) : ev 54 18 (some (.ref x) :: ls) st σ = ev 54 19 (some (.ref x) :: ls) (.ref x :: st) σ := e_aload1 k54_18 rfl
theorem k54_19 : cod 54 19 = some (.getfield 25, 3, 5, 4, 0, 0) := rfl
theorem e54_19 (t : Nat) (ls : mL) (st : List Value) (σ : mS) : ev 54 19 ls (.ref t :: st) σ = gfK (σ.1 t) 5 4 (fun v => ev 54 22 ls (v :: st) σ) := e_getf k54_19
theorem k54_22 : cod 54 22 = some (.sipush (600), 3, 0, 0, 0, 0) := rfl
theorem e54_22 (ls : mL) (st : List Value) (σ : mS) : ev 54 22 ls st σ = ev 54 25 ls (.int 600 :: st) σ := e_sipush 600 k54_22 (by decide)
theorem k54_25 : cod 54 25 = some (.if_icmp .gt (15), 3, 40, 0, 0, 0) := rfl
theorem e54_25 (x y : Int32) (ls : mL) (st : List Value) (σ : mS) : ev 54 25 ls (.int y :: .int x :: st) σ = if y < x then ev 54 40 ls st σ else ev 54 28 ls st σ := e_ic_gt k54_25
theorem k54_28 : cod 54 28 = some (.aload_n 0, 1, 0, 0, 0, 0) := rfl
theorem e54_28 (x : Nat) (ls : mL) (st : List Value) (σ : mS) : ev 54 28 (some (.ref x) :: ls) st σ = ev 54 29 (some (.ref x) :: ls) (.ref x :: st) σ := e_aload1 k54_28 rfl
theorem k54_29 : cod 54 29 = some (.getfield 15, 3, 5, 1, 0, 3) := rfl
theorem e54_29 (t : Nat) (ls : mL) (st : List Value) (σ : mS) : ev 54 29 ls (.ref t :: st) σ = gfK (σ.1 t) 5 1 (fun v => ev 54 32 ls (v :: st) σ) := e_getf k54_29
theorem k54_32 : cod 54 32 = some (.aload_n 0, 1, 0, 0, 0, 0) := rfl
theorem e54_32 (x : Nat) (ls : mL) (st : List Value) (σ : mS) : ev 54 32 (some (.ref x) :: ls) st σ = ev 54 33 (some (.ref x) :: ls) (.ref x :: st) σ := e_aload1 k54_32 rfl
theorem k54_33 : cod 54 33 = some (.getfield 25, 3, 5, 4, 0, 0) := rfl
theorem e54_33 (t : Nat) (ls : mL) (st : List Value) (σ : mS) : ev 54 33 ls (.ref t :: st) σ = gfK (σ.1 t) 5 4 (fun v => ev 54 36 ls (v :: st) σ) := e_getf k54_33
theorem k54_36 : cod 54 36 = some (.iaload, 1, 0, 0, 0, 0) := rfl
theorem e54_36 (j : Int32) (t : Nat) (ls : mL) (st : List Value) (σ : mS) : ev 54 36 ls (.int j :: .ref t :: st) σ = alK (σ.1 t) 0 j (fun v => ev 54 37 ls (.int v :: st) σ) := e_iald k54_36
theorem k54_37 : cod 54 37 = some (.goto (4), 3, 41, 0, 0, 0) := rfl
theorem e54_37 (ls : mL) (st : List Value) (σ : mS) : ev 54 37 ls st σ = ev 54 41 ls st σ := e_goto k54_37
theorem k54_40 : cod 54 40 = some (.iconst 0, 1, 0, 0, 0, 0) := rfl
theorem e54_40 (ls : mL) (st : List Value) (σ : mS) : ev 54 40 ls st σ = ev 54 41 ls (.int 0 :: st) σ := e_iconst 0 k54_40 (by decide)
theorem k54_41 : cod 54 41 = some (.ireturn, 1, 0, 0, 0, 0) := rfl
theorem e54_41 (x : Int32) (ls : mL) (σ : mS) : ev 54 41 ls [.int x] σ = some (some (.int x), σ) := e_iret k54_41 rfl
theorem m54 (t : Nat) (σ : mS) : evM 54 [.ref t] σ = ev 54 0 [some (.ref t)] [] σ := rfl
theorem k55_0 : cod 55 0 = some (.aload_n 0, 1, 0, 0, 0, 0) := rfl
theorem e55_0 (x : Nat) (ls : mL) (st : List Value) (σ : mS) : ev 55 0 (some (.ref x) :: ls) st σ = ev 55 1 (some (.ref x) :: ls) (.ref x :: st) σ := e_aload1 k55_0 rfl
theorem k55_1 : cod 55 1 = some (.getfield 25, 3, 5, 4, 0, 0) := rfl
theorem e55_1 (t : Nat) (ls : mL) (st : List Value) (σ : mS) : ev 55 1 ls (.ref t :: st) σ = gfK (σ.1 t) 5 4 (fun v => ev 55 4 ls (v :: st) σ) := e_getf k55_1
theorem k55_4 : cod 55 4 = some (.aload_n 0, 1, 0, 0, 0, 0) := rfl
theorem e55_4 (x : Nat) (ls : mL) (st : List Value) (σ : mS) : ev 55 4 (some (.ref x) :: ls) st σ = ev 55 5 (some (.ref x) :: ls) (.ref x :: st) σ := e_aload1 k55_4 rfl
theorem k55_5 : cod 55 5 = some (.getfield 21, 3, 5, 3, 0, 0) := rfl
theorem e55_5 (t : Nat) (ls : mL) (st : List Value) (σ : mS) : ev 55 5 ls (.ref t :: st) σ = gfK (σ.1 t) 5 3 (fun v => ev 55 8 ls (v :: st) σ) := e_getf k55_5
theorem k55_8 : cod 55 8 = some (.iconst 1, 1, 0, 0, 0, 0) := rfl
theorem e55_8 (ls : mL) (st : List Value) (σ : mS) : ev 55 8 ls st σ = ev 55 9 ls (.int 1 :: st) σ := e_iconst 1 k55_8 (by decide)
theorem k55_9 : cod 55 9 = some (.isub, 1, 0, 0, 0, 0) := rfl
theorem e55_9 (x y : Int32) (ls : mL) (st : List Value) (σ : mS) : ev 55 9 ls (.int y :: .int x :: st) σ = ev 55 10 ls (.int (x - y) :: st) σ := e_isub k55_9
theorem k55_10 : cod 55 10 = some (.if_icmp .ge (13), 3, 23, 0, 0, 0) := rfl
theorem e55_10 (x y : Int32) (ls : mL) (st : List Value) (σ : mS) : ev 55 10 ls (.int y :: .int x :: st) σ = if y ≤ x then ev 55 23 ls st σ else ev 55 13 ls st σ := e_ic_ge k55_10
theorem k55_13 : cod 55 13 = some (.aload_n 0, 1, 0, 0, 0, 0) := rfl
theorem e55_13 (x : Nat) (ls : mL) (st : List Value) (σ : mS) : ev 55 13 (some (.ref x) :: ls) st σ = ev 55 14 (some (.ref x) :: ls) (.ref x :: st) σ := e_aload1 k55_13 rfl
theorem k55_14 : cod 55 14 = some (.dup, 1, 0, 0, 0, 0) := rfl
theorem e55_14i (x : Int32) (ls : mL) (st : List Value) (σ : mS) : ev 55 14 ls (.int x :: st) σ = ev 55 15 ls (.int x :: .int x :: st) σ := e_dupI k55_14
theorem e55_14r (x : Nat) (ls : mL) (st : List Value) (σ : mS) : ev 55 14 ls (.ref x :: st) σ = ev 55 15 ls (.ref x :: .ref x :: st) σ := e_dupR k55_14
theorem k55_15 : cod 55 15 = some (.getfield 25, 3, 5, 4, 0, 0) := rfl
theorem e55_15 (t : Nat) (ls : mL) (st : List Value) (σ : mS) : ev 55 15 ls (.ref t :: st) σ = gfK (σ.1 t) 5 4 (fun v => ev 55 18 ls (v :: st) σ) := e_getf k55_15
theorem k55_18 : cod 55 18 = some (.iconst 1, 1, 0, 0, 0, 0) := rfl
theorem e55_18 (ls : mL) (st : List Value) (σ : mS) : ev 55 18 ls st σ = ev 55 19 ls (.int 1 :: st) σ := e_iconst 1 k55_18 (by decide)
theorem k55_19 : cod 55 19 = some (.iadd, 1, 0, 0, 0, 0) := rfl
theorem e55_19 (x y : Int32) (ls : mL) (st : List Value) (σ : mS) : ev 55 19 ls (.int y :: .int x :: st) σ = ev 55 20 ls (.int (x + y) :: st) σ := e_iadd k55_19
theorem k55_20 : cod 55 20 = some (.putfield 25, 3, 5, 4, 0, 0) := rfl
theorem e55_20 (x : Int32) (t : Nat) (ls : mL) (st : List Value) (σ : mS) : ev 55 20 ls (.int x :: .ref t :: st) σ = pfK (σ.1 t) 5 4 (.int x) (fun e => ev 55 23 ls st (mset σ t e)) := e_putI k55_20
theorem k55_23 : cod 55 23 = some (.return_, 1, 0, 0, 0, 0) := rfl
theorem e55_23 (ls : mL) (σ : mS) : ev 55 23 ls [] σ = some (none, σ) := e_vret k55_23 rfl
theorem m55 (t : Nat) (σ : mS) : evM 55 [.ref t] σ = ev 55 0 [some (.ref t)] [] σ := rfl
theorem k56_0 : cod 56 0 = some (.aload_n 0, 1, 0, 0, 0, 0) := rfl
theorem e56_0 (x : Nat) (ls : mL) (st : List Value) (σ : mS) : ev 56 0 (some (.ref x) :: ls) st σ = ev 56 1 (some (.ref x) :: ls) (.ref x :: st) σ := e_aload1 k56_0 rfl
theorem k56_1 : cod 56 1 = some (.invokevirtual 65, 3, 53, 0, 0, 5) := rfl
theorem e56_1 (t : Nat) (ls : mL) (st : List Value) (σ : mS) (hm : mCat st ≤ 8) : ev 56 1 ls (.ref t :: st) σ = isC (σ.1 t) 5 ((evM 53 [.ref t] σ).bind fun z => ev 56 4 ls (z.1.toList ++ st) z.2) := e_callVK k56_1 (by decide) rfl ⟨hm, Nat.le_of_ble_eq_true rfl⟩
theorem k56_4 : cod 56 4 = some (.iload_n 1, 1, 0, 0, 0, 0) := rfl
theorem e56_4 (a0 : Option Value) (x : Int32) (ls : mL) (st : List Value) (σ : mS) : ev 56 4 (a0 :: some (.int x) :: ls) st σ = ev 56 5 (a0 :: some (.int x) :: ls) (.int x :: st) σ := e_iload1 k56_4 rfl
theorem k56_5 : cod 56 5 = some (.if_icmp .ne (7), 3, 12, 0, 0, 0) := rfl
theorem e56_5 (x y : Int32) (ls : mL) (st : List Value) (σ : mS) : ev 56 5 ls (.int y :: .int x :: st) σ = if x = y then ev 56 8 ls st σ else ev 56 12 ls st σ := e_ic_ne k56_5
theorem k56_8 : cod 56 8 = some (.iconst 1, 1, 0, 0, 0, 0) := rfl
theorem e56_8 (ls : mL) (st : List Value) (σ : mS) : ev 56 8 ls st σ = ev 56 9 ls (.int 1 :: st) σ := e_iconst 1 k56_8 (by decide)
theorem k56_9 : cod 56 9 = some (.goto (4), 3, 13, 0, 0, 0) := rfl
theorem e56_9 (ls : mL) (st : List Value) (σ : mS) : ev 56 9 ls st σ = ev 56 13 ls st σ := e_goto k56_9
theorem k56_12 : cod 56 12 = some (.iconst 0, 1, 0, 0, 0, 0) := rfl
theorem e56_12 (ls : mL) (st : List Value) (σ : mS) : ev 56 12 ls st σ = ev 56 13 ls (.int 0 :: st) σ := e_iconst 0 k56_12 (by decide)
theorem k56_13 : cod 56 13 = some (.istore_n 2, 1, 0, 0, 0, 0) := rfl
theorem e56_13i (a0 : Option Value) (y : Int32) (o : Option Value) (x : Int32) (ls : mL) (st : List Value) (σ : mS) : ev 56 13 (a0 :: some (.int y) :: o :: ls) (.int x :: st) σ = ev 56 14 (a0 :: some (.int y) :: some (.int x) :: ls) st σ := e_istore1 k56_13 (Nat.le_add_left 3 ls.length)
theorem e56_13n (a0 : Option Value) (o : Option Value) (x : Int32) (ls : mL) (st : List Value) (σ : mS) : ev 56 13 (a0 :: none :: o :: ls) (.int x :: st) σ = ev 56 14 (a0 :: none :: some (.int x) :: ls) st σ := e_istore1 k56_13 (Nat.le_add_left 3 ls.length)
theorem e56_13r (a0 : Option Value) (y : Nat) (o : Option Value) (x : Int32) (ls : mL) (st : List Value) (σ : mS) : ev 56 13 (a0 :: some (.ref y) :: o :: ls) (.int x :: st) σ = ev 56 14 (a0 :: some (.ref y) :: some (.int x) :: ls) st σ := e_istore1 k56_13 (Nat.le_add_left 3 ls.length)
theorem k56_14 : cod 56 14 = some (.iload_n 2, 1, 0, 0, 0, 0) := rfl
theorem e56_14 (a0 a1 : Option Value) (x : Int32) (ls : mL) (st : List Value) (σ : mS) : ev 56 14 (a0 :: a1 :: some (.int x) :: ls) st σ = ev 56 15 (a0 :: a1 :: some (.int x) :: ls) (.int x :: st) σ := e_iload1 k56_14 rfl
theorem k56_15 : cod 56 15 = some (.ifCond .eq (7), 3, 22, 0, 0, 0) := rfl
theorem e56_15 (x : Int32) (ls : mL) (st : List Value) (σ : mS) : ev 56 15 ls (.int x :: st) σ = if x = 0 then ev 56 22 ls st σ else ev 56 18 ls st σ := e_if_eq k56_15
theorem k56_18 : cod 56 18 = some (.aload_n 0, 1, 0, 0, 0, 0) := rfl
theorem e56_18 (x : Nat) (ls : mL) (st : List Value) (σ : mS) : ev 56 18 (some (.ref x) :: ls) st σ = ev 56 19 (some (.ref x) :: ls) (.ref x :: st) σ := e_aload1 k56_18 rfl
theorem k56_19 : cod 56 19 = some (.invokevirtual 69, 3, 55, 0, 0, 5) := rfl
theorem e56_19 (t : Nat) (ls : mL) (st : List Value) (σ : mS) (hm : mCat st ≤ 8) : ev 56 19 ls (.ref t :: st) σ = isC (σ.1 t) 5 ((evM 55 [.ref t] σ).bind fun z => ev 56 22 ls (z.1.toList ++ st) z.2) := e_callVK k56_19 (by decide) rfl ⟨hm, Nat.le_of_ble_eq_true rfl⟩
theorem k56_22 : cod 56 22 = some (.iload_n 2, 1, 0, 0, 0, 0) := rfl
theorem e56_22 (a0 a1 : Option Value) (x : Int32) (ls : mL) (st : List Value) (σ : mS) : ev 56 22 (a0 :: a1 :: some (.int x) :: ls) st σ = ev 56 23 (a0 :: a1 :: some (.int x) :: ls) (.int x :: st) σ := e_iload1 k56_22 rfl
theorem k56_23 : cod 56 23 = some (.ireturn, 1, 0, 0, 0, 0) := rfl
theorem e56_23 (x : Int32) (ls : mL) (σ : mS) : ev 56 23 ls [.int x] σ = if x = 0 ∨ x = 1 then some (some (.int x), σ) else none := e_zret k56_23 rfl
theorem e56_23b0 (ls : mL) (σ : mS) : ev 56 23 ls [.int 0] σ = some (some (.int 0), σ) := (e_zret k56_23 rfl).trans (if_pos (Or.inl rfl))
theorem e56_23b1 (ls : mL) (σ : mS) : ev 56 23 ls [.int 1] σ = some (some (.int 1), σ) := (e_zret k56_23 rfl).trans (if_pos (Or.inr rfl))
theorem m56 (t : Nat) (x0 : Int32) (σ : mS) : evM 56 [.ref t, .int x0] σ = ev 56 0 [some (.ref t), some (.int x0), none] [] σ := rfl
theorem k57_0 : cod 57 0 = some (.aload_n 0, 1, 0, 0, 0, 0) := rfl
theorem e57_0 (x : Nat) (ls : mL) (st : List Value) (σ : mS) : ev 57 0 (some (.ref x) :: ls) st σ = ev 57 1 (some (.ref x) :: ls) (.ref x :: st) σ := e_aload1 k57_0 rfl
theorem k57_1 : cod 57 1 = some (.getfield 25, 3, 5, 4, 0, 0) := rfl
theorem e57_1 (t : Nat) (ls : mL) (st : List Value) (σ : mS) : ev 57 1 ls (.ref t :: st) σ = gfK (σ.1 t) 5 4 (fun v => ev 57 4 ls (v :: st) σ) := e_getf k57_1
theorem k57_4 : cod 57 4 = some (.ifCond .lt (36), 3, 40, 0, 0, 0) := rfl
theorem e57_4 (x : Int32) (ls : mL) (st : List Value) (σ : mS) : ev 57 4 ls (.int x :: st) σ = if x < 0 then ev 57 40 ls st σ else ev 57 7 ls st σ := e_if_lt k57_4
theorem k57_7 : cod 57 7 = some (.aload_n 0, 1, 0, 0, 0, 0) := rfl
theorem e57_7 (x : Nat) (ls : mL) (st : List Value) (σ : mS) : ev 57 7 (some (.ref x) :: ls) st σ = ev 57 8 (some (.ref x) :: ls) (.ref x :: st) σ := e_aload1 k57_7 rfl
theorem k57_8 : cod 57 8 = some (.getfield 25, 3, 5, 4, 0, 0) := rfl
theorem e57_8 (t : Nat) (ls : mL) (st : List Value) (σ : mS) : ev 57 8 ls (.ref t :: st) σ = gfK (σ.1 t) 5 4 (fun v => ev 57 11 ls (v :: st) σ) := e_getf k57_8
theorem k57_11 : cod 57 11 = some (.aload_n 0, 1, 0, 0, 0, 0) := rfl
theorem e57_11 (x : Nat) (ls : mL) (st : List Value) (σ : mS) : ev 57 11 (some (.ref x) :: ls) st σ = ev 57 12 (some (.ref x) :: ls) (.ref x :: st) σ := e_aload1 k57_11 rfl
theorem k57_12 : cod 57 12 = some (.getfield 21, 3, 5, 3, 0, 0) := rfl
theorem e57_12 (t : Nat) (ls : mL) (st : List Value) (σ : mS) : ev 57 12 ls (.ref t :: st) σ = gfK (σ.1 t) 5 3 (fun v => ev 57 15 ls (v :: st) σ) := e_getf k57_12
theorem k57_15 : cod 57 15 = some (.if_icmp .ge (25), 3, 40, 0, 0, 0) := rfl
theorem e57_15 (x y : Int32) (ls : mL) (st : List Value) (σ : mS) : ev 57 15 ls (.int y :: .int x :: st) σ = if y ≤ x then ev 57 40 ls st σ else ev 57 18 ls st σ := e_ic_ge k57_15
theorem k57_18 : cod 57 18 = some (.aload_n 0, 1, 0, 0, 0, 0) := rfl
theorem e57_18 (x : Nat) (ls : mL) (st : List Value) (σ : mS) : ev 57 18 (some (.ref x) :: ls) st σ = ev 57 19 (some (.ref x) :: ls) (.ref x :: st) σ := e_aload1 k57_18 rfl
theorem k57_19 : cod 57 19 = some (.getfield 25, 3, 5, 4, 0, 0) := rfl
theorem e57_19 (t : Nat) (ls : mL) (st : List Value) (σ : mS) : ev 57 19 ls (.ref t :: st) σ = gfK (σ.1 t) 5 4 (fun v => ev 57 22 ls (v :: st) σ) := e_getf k57_19
theorem k57_22 : cod 57 22 = some (.sipush (600), 3, 0, 0, 0, 0) := rfl
theorem e57_22 (ls : mL) (st : List Value) (σ : mS) : ev 57 22 ls st σ = ev 57 25 ls (.int 600 :: st) σ := e_sipush 600 k57_22 (by decide)
theorem k57_25 : cod 57 25 = some (.if_icmp .gt (15), 3, 40, 0, 0, 0) := rfl
theorem e57_25 (x y : Int32) (ls : mL) (st : List Value) (σ : mS) : ev 57 25 ls (.int y :: .int x :: st) σ = if y < x then ev 57 40 ls st σ else ev 57 28 ls st σ := e_ic_gt k57_25
theorem k57_28 : cod 57 28 = some (.aload_n 0, 1, 0, 0, 0, 0) := rfl
theorem e57_28 (x : Nat) (ls : mL) (st : List Value) (σ : mS) : ev 57 28 (some (.ref x) :: ls) st σ = ev 57 29 (some (.ref x) :: ls) (.ref x :: st) σ := e_aload1 k57_28 rfl
theorem k57_29 : cod 57 29 = some (.getfield 18, 3, 5, 2, 0, 3) := rfl
theorem e57_29 (t : Nat) (ls : mL) (st : List Value) (σ : mS) : ev 57 29 ls (.ref t :: st) σ = gfK (σ.1 t) 5 2 (fun v => ev 57 32 ls (v :: st) σ) := e_getf k57_29
theorem k57_32 : cod 57 32 = some (.aload_n 0, 1, 0, 0, 0, 0) := rfl
theorem e57_32 (x : Nat) (ls : mL) (st : List Value) (σ : mS) : ev 57 32 (some (.ref x) :: ls) st σ = ev 57 33 (some (.ref x) :: ls) (.ref x :: st) σ := e_aload1 k57_32 rfl
theorem k57_33 : cod 57 33 = some (.getfield 25, 3, 5, 4, 0, 0) := rfl
theorem e57_33 (t : Nat) (ls : mL) (st : List Value) (σ : mS) : ev 57 33 ls (.ref t :: st) σ = gfK (σ.1 t) 5 4 (fun v => ev 57 36 ls (v :: st) σ) := e_getf k57_33
theorem k57_36 : cod 57 36 = some (.iaload, 1, 0, 0, 0, 0) := rfl
theorem e57_36 (j : Int32) (t : Nat) (ls : mL) (st : List Value) (σ : mS) : ev 57 36 ls (.int j :: .ref t :: st) σ = alK (σ.1 t) 0 j (fun v => ev 57 37 ls (.int v :: st) σ) := e_iald k57_36
theorem k57_37 : cod 57 37 = some (.goto (4), 3, 41, 0, 0, 0) := rfl
theorem e57_37 (ls : mL) (st : List Value) (σ : mS) : ev 57 37 ls st σ = ev 57 41 ls st σ := e_goto k57_37
theorem k57_40 : cod 57 40 = some (.iconst 0, 1, 0, 0, 0, 0) := rfl
theorem e57_40 (ls : mL) (st : List Value) (σ : mS) : ev 57 40 ls st σ = ev 57 41 ls (.int 0 :: st) σ := e_iconst 0 k57_40 (by decide)
theorem k57_41 : cod 57 41 = some (.ireturn, 1, 0, 0, 0, 0) := rfl
theorem e57_41 (x : Int32) (ls : mL) (σ : mS) : ev 57 41 ls [.int x] σ = some (some (.int x), σ) := e_iret k57_41 rfl
theorem m57 (t : Nat) (σ : mS) : evM 57 [.ref t] σ = ev 57 0 [some (.ref t)] [] σ := rfl
theorem k58_0 : cod 58 0 = some (.aload_n 0, 1, 0, 0, 0, 0) := rfl
theorem e58_0 (x : Nat) (ls : mL) (st : List Value) (σ : mS) : ev 58 0 (some (.ref x) :: ls) st σ = ev 58 1 (some (.ref x) :: ls) (.ref x :: st) σ := e_aload1 k58_0 rfl
theorem k58_1 : cod 58 1 = some (.invokespecial 3, 3, 6, 0, 9, 2) := rfl
theorem e58_1 (x : Nat) (ls : mL) (st : List Value) (σ : mS) (hz : mCat st ≤ 8) : ev 58 1 ls (.ref x :: st) σ = ev 58 4 ls st σ := e_objInit k58_1 hz
theorem k58_4 : cod 58 4 = some (.aload_n 0, 1, 0, 0, 0, 0) := rfl
theorem e58_4 (x : Nat) (ls : mL) (st : List Value) (σ : mS) : ev 58 4 (some (.ref x) :: ls) st σ = ev 58 5 (some (.ref x) :: ls) (.ref x :: st) σ := e_aload1 k58_4 rfl
theorem k58_5 : cod 58 5 = some (.sipush (128), 3, 0, 0, 0, 0) := rfl
theorem e58_5 (ls : mL) (st : List Value) (σ : mS) : ev 58 5 ls st σ = ev 58 8 ls (.int 128 :: st) σ := e_sipush 128 k58_5 (by decide)
theorem k58_8 : cod 58 8 = some (.newarray .int, 2, 0, 0, 0, 0) := rfl
theorem e58_8 (x : Int32) (ls : mL) (st : List Value) (σ : mS) (hx : ¬ (x < 0 ∨ 100000 < x.toNatClampNeg)) : ev 58 8 ls (.int x :: st) σ = ev 58 10 ls (.ref σ.2.1 :: st) (mnew σ (.inl (0, x.toNatClampNeg, fun _ => 0)) x.toNatClampNeg) := e_newa k58_8 hx
theorem k58_10 : cod 58 10 = some (.putfield 9, 3, 6, 0, 2, 3) := rfl
theorem e58_10 (x : Nat) (t : Nat) (ls : mL) (st : List Value) (σ : mS) : ev 58 10 ls (.ref x :: .ref t :: st) σ = pfK (σ.1 t) 6 0 (.ref x) (fun e => ev 58 13 ls st (mset σ t e)) := e_putR k58_10
theorem k58_13 : cod 58 13 = some (.aload_n 0, 1, 0, 0, 0, 0) := rfl
theorem e58_13 (x : Nat) (ls : mL) (st : List Value) (σ : mS) : ev 58 13 (some (.ref x) :: ls) st σ = ev 58 14 (some (.ref x) :: ls) (.ref x :: st) σ := e_aload1 k58_13 rfl
theorem k58_14 : cod 58 14 = some (.sipush (128), 3, 0, 0, 0, 0) := rfl
theorem e58_14 (ls : mL) (st : List Value) (σ : mS) : ev 58 14 ls st σ = ev 58 17 ls (.int 128 :: st) σ := e_sipush 128 k58_14 (by decide)
theorem k58_17 : cod 58 17 = some (.newarray .int, 2, 0, 0, 0, 0) := rfl
theorem e58_17 (x : Int32) (ls : mL) (st : List Value) (σ : mS) (hx : ¬ (x < 0 ∨ 100000 < x.toNatClampNeg)) : ev 58 17 ls (.int x :: st) σ = ev 58 19 ls (.ref σ.2.1 :: st) (mnew σ (.inl (0, x.toNatClampNeg, fun _ => 0)) x.toNatClampNeg) := e_newa k58_17 hx
theorem k58_19 : cod 58 19 = some (.putfield 15, 3, 6, 1, 2, 3) := rfl
theorem e58_19 (x : Nat) (t : Nat) (ls : mL) (st : List Value) (σ : mS) : ev 58 19 ls (.ref x :: .ref t :: st) σ = pfK (σ.1 t) 6 1 (.ref x) (fun e => ev 58 22 ls st (mset σ t e)) := e_putR k58_19
theorem k58_22 : cod 58 22 = some (.aload_n 0, 1, 0, 0, 0, 0) := rfl
theorem e58_22 (x : Nat) (ls : mL) (st : List Value) (σ : mS) : ev 58 22 (some (.ref x) :: ls) st σ = ev 58 23 (some (.ref x) :: ls) (.ref x :: st) σ := e_aload1 k58_22 rfl
theorem k58_23 : cod 58 23 = some (.sipush (512), 3, 0, 0, 0, 0) := rfl
theorem e58_23 (ls : mL) (st : List Value) (σ : mS) : ev 58 23 ls st σ = ev 58 26 ls (.int 512 :: st) σ := e_sipush 512 k58_23 (by decide)
theorem k58_26 : cod 58 26 = some (.newarray .int, 2, 0, 0, 0, 0) := rfl
theorem e58_26 (x : Int32) (ls : mL) (st : List Value) (σ : mS) (hx : ¬ (x < 0 ∨ 100000 < x.toNatClampNeg)) : ev 58 26 ls (.int x :: st) σ = ev 58 28 ls (.ref σ.2.1 :: st) (mnew σ (.inl (0, x.toNatClampNeg, fun _ => 0)) x.toNatClampNeg) := e_newa k58_26 hx
theorem k58_28 : cod 58 28 = some (.putfield 18, 3, 6, 2, 2, 3) := rfl
theorem e58_28 (x : Nat) (t : Nat) (ls : mL) (st : List Value) (σ : mS) : ev 58 28 ls (.ref x :: .ref t :: st) σ = pfK (σ.1 t) 6 2 (.ref x) (fun e => ev 58 31 ls st (mset σ t e)) := e_putR k58_28
theorem k58_31 : cod 58 31 = some (.aload_n 0, 1, 0, 0, 0, 0) := rfl
theorem e58_31 (x : Nat) (ls : mL) (st : List Value) (σ : mS) : ev 58 31 (some (.ref x) :: ls) st σ = ev 58 32 (some (.ref x) :: ls) (.ref x :: st) σ := e_aload1 k58_31 rfl
theorem k58_32 : cod 58 32 = some (.bipush (10), 2, 0, 0, 0, 0) := rfl
theorem e58_32 (ls : mL) (st : List Value) (σ : mS) : ev 58 32 ls st σ = ev 58 34 ls (.int 10 :: st) σ := e_bipush 10 k58_32 (by decide)
theorem k58_34 : cod 58 34 = some (.newarray .int, 2, 0, 0, 0, 0) := rfl
theorem e58_34 (x : Int32) (ls : mL) (st : List Value) (σ : mS) (hx : ¬ (x < 0 ∨ 100000 < x.toNatClampNeg)) : ev 58 34 ls (.int x :: st) σ = ev 58 36 ls (.ref σ.2.1 :: st) (mnew σ (.inl (0, x.toNatClampNeg, fun _ => 0)) x.toNatClampNeg) := e_newa k58_34 hx
theorem k58_36 : cod 58 36 = some (.putfield 21, 3, 6, 3, 2, 3) := rfl
theorem e58_36 (x : Nat) (t : Nat) (ls : mL) (st : List Value) (σ : mS) : ev 58 36 ls (.ref x :: .ref t :: st) σ = pfK (σ.1 t) 6 3 (.ref x) (fun e => ev 58 39 ls st (mset σ t e)) := e_putR k58_36
theorem k58_39 : cod 58 39 = some (.aload_n 0, 1, 0, 0, 0, 0) := rfl
theorem e58_39 (x : Nat) (ls : mL) (st : List Value) (σ : mS) : ev 58 39 (some (.ref x) :: ls) st σ = ev 58 40 (some (.ref x) :: ls) (.ref x :: st) σ := e_aload1 k58_39 rfl
theorem k58_40 : cod 58 40 = some (.bipush (10), 2, 0, 0, 0, 0) := rfl
theorem e58_40 (ls : mL) (st : List Value) (σ : mS) : ev 58 40 ls st σ = ev 58 42 ls (.int 10 :: st) σ := e_bipush 10 k58_40 (by decide)
theorem k58_42 : cod 58 42 = some (.newarray .int, 2, 0, 0, 0, 0) := rfl
theorem e58_42 (x : Int32) (ls : mL) (st : List Value) (σ : mS) (hx : ¬ (x < 0 ∨ 100000 < x.toNatClampNeg)) : ev 58 42 ls (.int x :: st) σ = ev 58 44 ls (.ref σ.2.1 :: st) (mnew σ (.inl (0, x.toNatClampNeg, fun _ => 0)) x.toNatClampNeg) := e_newa k58_42 hx
theorem k58_44 : cod 58 44 = some (.putfield 24, 3, 6, 4, 2, 3) := rfl
theorem e58_44 (x : Nat) (t : Nat) (ls : mL) (st : List Value) (σ : mS) : ev 58 44 ls (.ref x :: .ref t :: st) σ = pfK (σ.1 t) 6 4 (.ref x) (fun e => ev 58 47 ls st (mset σ t e)) := e_putR k58_44
theorem k58_47 : cod 58 47 = some (.aload_n 0, 1, 0, 0, 0, 0) := rfl
theorem e58_47 (x : Nat) (ls : mL) (st : List Value) (σ : mS) : ev 58 47 (some (.ref x) :: ls) st σ = ev 58 48 (some (.ref x) :: ls) (.ref x :: st) σ := e_aload1 k58_47 rfl
theorem k58_48 : cod 58 48 = some (.bipush (16), 2, 0, 0, 0, 0) := rfl
theorem e58_48 (ls : mL) (st : List Value) (σ : mS) : ev 58 48 ls st σ = ev 58 50 ls (.int 16 :: st) σ := e_bipush 16 k58_48 (by decide)
theorem k58_50 : cod 58 50 = some (.newarray .int, 2, 0, 0, 0, 0) := rfl
theorem e58_50 (x : Int32) (ls : mL) (st : List Value) (σ : mS) (hx : ¬ (x < 0 ∨ 100000 < x.toNatClampNeg)) : ev 58 50 ls (.int x :: st) σ = ev 58 52 ls (.ref σ.2.1 :: st) (mnew σ (.inl (0, x.toNatClampNeg, fun _ => 0)) x.toNatClampNeg) := e_newa k58_50 hx
theorem k58_52 : cod 58 52 = some (.putfield 27, 3, 6, 12, 2, 3) := rfl
theorem e58_52 (x : Nat) (t : Nat) (ls : mL) (st : List Value) (σ : mS) : ev 58 52 ls (.ref x :: .ref t :: st) σ = pfK (σ.1 t) 6 12 (.ref x) (fun e => ev 58 55 ls st (mset σ t e)) := e_putR k58_52
theorem k58_55 : cod 58 55 = some (.aload_n 0, 1, 0, 0, 0, 0) := rfl
theorem e58_55 (x : Nat) (ls : mL) (st : List Value) (σ : mS) : ev 58 55 (some (.ref x) :: ls) st σ = ev 58 56 (some (.ref x) :: ls) (.ref x :: st) σ := e_aload1 k58_55 rfl
theorem k58_56 : cod 58 56 = some (.bipush (16), 2, 0, 0, 0, 0) := rfl
theorem e58_56 (ls : mL) (st : List Value) (σ : mS) : ev 58 56 ls st σ = ev 58 58 ls (.int 16 :: st) σ := e_bipush 16 k58_56 (by decide)
theorem k58_58 : cod 58 58 = some (.newarray .int, 2, 0, 0, 0, 0) := rfl
theorem e58_58 (x : Int32) (ls : mL) (st : List Value) (σ : mS) (hx : ¬ (x < 0 ∨ 100000 < x.toNatClampNeg)) : ev 58 58 ls (.int x :: st) σ = ev 58 60 ls (.ref σ.2.1 :: st) (mnew σ (.inl (0, x.toNatClampNeg, fun _ => 0)) x.toNatClampNeg) := e_newa k58_58 hx
theorem k58_60 : cod 58 60 = some (.putfield 30, 3, 6, 13, 2, 3) := rfl
theorem e58_60 (x : Nat) (t : Nat) (ls : mL) (st : List Value) (σ : mS) : ev 58 60 ls (.ref x :: .ref t :: st) σ = pfK (σ.1 t) 6 13 (.ref x) (fun e => ev 58 63 ls st (mset σ t e)) := e_putR k58_60
theorem k58_63 : cod 58 63 = some (.aload_n 0, 1, 0, 0, 0, 0) := rfl
theorem e58_63 (x : Nat) (ls : mL) (st : List Value) (σ : mS) : ev 58 63 (some (.ref x) :: ls) st σ = ev 58 64 (some (.ref x) :: ls) (.ref x :: st) σ := e_aload1 k58_63 rfl
theorem k58_64 : cod 58 64 = some (.bipush (16), 2, 0, 0, 0, 0) := rfl
theorem e58_64 (ls : mL) (st : List Value) (σ : mS) : ev 58 64 ls st σ = ev 58 66 ls (.int 16 :: st) σ := e_bipush 16 k58_64 (by decide)
theorem k58_66 : cod 58 66 = some (.newarray .int, 2, 0, 0, 0, 0) := rfl
theorem e58_66 (x : Int32) (ls : mL) (st : List Value) (σ : mS) (hx : ¬ (x < 0 ∨ 100000 < x.toNatClampNeg)) : ev 58 66 ls (.int x :: st) σ = ev 58 68 ls (.ref σ.2.1 :: st) (mnew σ (.inl (0, x.toNatClampNeg, fun _ => 0)) x.toNatClampNeg) := e_newa k58_66 hx
theorem k58_68 : cod 58 68 = some (.putfield 33, 3, 6, 14, 2, 3) := rfl
theorem e58_68 (x : Nat) (t : Nat) (ls : mL) (st : List Value) (σ : mS) : ev 58 68 ls (.ref x :: .ref t :: st) σ = pfK (σ.1 t) 6 14 (.ref x) (fun e => ev 58 71 ls st (mset σ t e)) := e_putR k58_68
theorem k58_71 : cod 58 71 = some (.aload_n 0, 1, 0, 0, 0, 0) := rfl
theorem e58_71 (x : Nat) (ls : mL) (st : List Value) (σ : mS) : ev 58 71 (some (.ref x) :: ls) st σ = ev 58 72 (some (.ref x) :: ls) (.ref x :: st) σ := e_aload1 k58_71 rfl
theorem k58_72 : cod 58 72 = some (.bipush (16), 2, 0, 0, 0, 0) := rfl
theorem e58_72 (ls : mL) (st : List Value) (σ : mS) : ev 58 72 ls st σ = ev 58 74 ls (.int 16 :: st) σ := e_bipush 16 k58_72 (by decide)
theorem k58_74 : cod 58 74 = some (.newarray .int, 2, 0, 0, 0, 0) := rfl
theorem e58_74 (x : Int32) (ls : mL) (st : List Value) (σ : mS) (hx : ¬ (x < 0 ∨ 100000 < x.toNatClampNeg)) : ev 58 74 ls (.int x :: st) σ = ev 58 76 ls (.ref σ.2.1 :: st) (mnew σ (.inl (0, x.toNatClampNeg, fun _ => 0)) x.toNatClampNeg) := e_newa k58_74 hx
theorem k58_76 : cod 58 76 = some (.putfield 36, 3, 6, 15, 2, 3) := rfl
theorem e58_76 (x : Nat) (t : Nat) (ls : mL) (st : List Value) (σ : mS) : ev 58 76 ls (.ref x :: .ref t :: st) σ = pfK (σ.1 t) 6 15 (.ref x) (fun e => ev 58 79 ls st (mset σ t e)) := e_putR k58_76
theorem k58_79 : cod 58 79 = some (.aload_n 0, 1, 0, 0, 0, 0) := rfl
theorem e58_79 (x : Nat) (ls : mL) (st : List Value) (σ : mS) : ev 58 79 (some (.ref x) :: ls) st σ = ev 58 80 (some (.ref x) :: ls) (.ref x :: st) σ := e_aload1 k58_79 rfl
theorem k58_80 : cod 58 80 = some (.new 39, 3, 2, 0, 0, 0) := rfl
theorem e58_80 (ls : mL) (st : List Value) (σ : mS) : ev 58 80 ls st σ = ev 58 83 ls (.ref σ.2.1 :: st) (mnew σ (.inr (2, (ctT 2).map dfv)) (ctT 2).length) := e_new k58_80
theorem k58_83 : cod 58 83 = some (.dup, 1, 0, 0, 0, 0) := rfl
theorem e58_83i (x : Int32) (ls : mL) (st : List Value) (σ : mS) : ev 58 83 ls (.int x :: st) σ = ev 58 84 ls (.int x :: .int x :: st) σ := e_dupI k58_83
theorem e58_83r (x : Nat) (ls : mL) (st : List Value) (σ : mS) : ev 58 83 ls (.ref x :: st) σ = ev 58 84 ls (.ref x :: .ref x :: st) σ := e_dupR k58_83
theorem k58_84 : cod 58 84 = some (.invokespecial 41, 3, 27, 0, 1, 0) := rfl
theorem e58_84 (t : Nat) (ls : mL) (st : List Value) (σ : mS) (hm : mCat st ≤ 8) : ev 58 84 ls (.ref t :: st) σ = (evM 27 [.ref t] σ).bind fun z => ev 58 87 ls (z.1.toList ++ st) z.2 := e_callI k58_84 (by decide) rfl ⟨hm, Nat.le_of_ble_eq_true rfl⟩
theorem k58_87 : cod 58 87 = some (.putfield 42, 3, 6, 16, 2, 3) := rfl
theorem e58_87 (x : Nat) (t : Nat) (ls : mL) (st : List Value) (σ : mS) : ev 58 87 ls (.ref x :: .ref t :: st) σ = pfK (σ.1 t) 6 16 (.ref x) (fun e => ev 58 90 ls st (mset σ t e)) := e_putR k58_87
theorem k58_90 : cod 58 90 = some (.return_, 1, 0, 0, 0, 0) := rfl
theorem e58_90 (ls : mL) (σ : mS) : ev 58 90 ls [] σ = some (none, σ) := e_vret k58_90 rfl
theorem m58 (t : Nat) (σ : mS) : evM 58 [.ref t] σ = ev 58 0 [some (.ref t)] [] σ := rfl
theorem k59_0 : cod 59 0 = some (.aload_n 0, 1, 0, 0, 0, 0) := rfl
theorem e59_0 (x : Nat) (ls : mL) (st : List Value) (σ : mS) : ev 59 0 (some (.ref x) :: ls) st σ = ev 59 1 (some (.ref x) :: ls) (.ref x :: st) σ := e_aload1 k59_0 rfl
theorem k59_1 : cod 59 1 = some (.aload_n 0, 1, 0, 0, 0, 0) := rfl
theorem e59_1 (x : Nat) (ls : mL) (st : List Value) (σ : mS) : ev 59 1 (some (.ref x) :: ls) st σ = ev 59 2 (some (.ref x) :: ls) (.ref x :: st) σ := e_aload1 k59_1 rfl
theorem k59_2 : cod 59 2 = some (.getfield 53, 3, 6, 7, 0, 0) := rfl
theorem e59_2 (t : Nat) (ls : mL) (st : List Value) (σ : mS) : ev 59 2 ls (.ref t :: st) σ = gfK (σ.1 t) 6 7 (fun v => ev 59 5 ls (v :: st) σ) := e_getf k59_2
theorem k59_5 : cod 59 5 = some (.aload_n 0, 1, 0, 0, 0, 0) := rfl
theorem e59_5 (x : Nat) (ls : mL) (st : List Value) (σ : mS) : ev 59 5 (some (.ref x) :: ls) st σ = ev 59 6 (some (.ref x) :: ls) (.ref x :: st) σ := e_aload1 k59_5 rfl
theorem k59_6 : cod 59 6 = some (.invokevirtual 99, 3, 60, 0, 0, 6) := rfl
theorem e59_6 (t : Nat) (ls : mL) (st : List Value) (σ : mS) (hm : mCat st ≤ 8) : ev 59 6 ls (.ref t :: st) σ = isC (σ.1 t) 6 ((evM 60 [.ref t] σ).bind fun z => ev 59 9 ls (z.1.toList ++ st) z.2) := e_callVK k59_6 (by decide) rfl ⟨hm, Nat.le_of_ble_eq_true rfl⟩
theorem k59_9 : cod 59 9 = some (.ior, 1, 0, 0, 0, 0) := rfl
theorem e59_9 (x y : Int32) (ls : mL) (st : List Value) (σ : mS) : ev 59 9 ls (.int y :: .int x :: st) σ = ev 59 10 ls (.int (x ||| y) :: st) σ := e_ior k59_9
theorem k59_10 : cod 59 10 = some (.putfield 103, 3, 6, 10, 0, 0) := rfl
theorem e59_10 (x : Int32) (t : Nat) (ls : mL) (st : List Value) (σ : mS) : ev 59 10 ls (.int x :: .ref t :: st) σ = pfK (σ.1 t) 6 10 (.int x) (fun e => ev 59 13 ls st (mset σ t e)) := e_putI k59_10
theorem k59_13 : cod 59 13 = some (.aload_n 0, 1, 0, 0, 0, 0) := rfl
theorem e59_13 (x : Nat) (ls : mL) (st : List Value) (σ : mS) : ev 59 13 (some (.ref x) :: ls) st σ = ev 59 14 (some (.ref x) :: ls) (.ref x :: st) σ := e_aload1 k59_13 rfl
theorem k59_14 : cod 59 14 = some (.ldc 106, 2, 65535, 0, 0, 0) := rfl
theorem e59_14 (ls : mL) (st : List Value) (σ : mS) : ev 59 14 ls st σ = ev 59 16 ls (.int 65535 :: st) σ := e_ldcI 65535 k59_14 (by decide)
theorem k59_16 : cod 59 16 = some (.aload_n 0, 1, 0, 0, 0, 0) := rfl
theorem e59_16 (x : Nat) (ls : mL) (st : List Value) (σ : mS) : ev 59 16 (some (.ref x) :: ls) st σ = ev 59 17 (some (.ref x) :: ls) (.ref x :: st) σ := e_aload1 k59_16 rfl
theorem k59_17 : cod 59 17 = some (.getfield 103, 3, 6, 10, 0, 0) := rfl
theorem e59_17 (t : Nat) (ls : mL) (st : List Value) (σ : mS) : ev 59 17 ls (.ref t :: st) σ = gfK (σ.1 t) 6 10 (fun v => ev 59 20 ls (v :: st) σ) := e_getf k59_17
theorem k59_20 : cod 59 20 = some (.iconst (-1), 1, 0, 0, 0, 0) := rfl
theorem e59_20 (ls : mL) (st : List Value) (σ : mS) : ev 59 20 ls st σ = ev 59 21 ls (.int (-1) :: st) σ := e_iconst (-1) k59_20 (by decide)
theorem k59_21 : cod 59 21 = some (.ixor, 1, 0, 0, 0, 0) := rfl
theorem e59_21 (x y : Int32) (ls : mL) (st : List Value) (σ : mS) : ev 59 21 ls (.int y :: .int x :: st) σ = ev 59 22 ls (.int (x ^^^ y) :: st) σ := e_ixor k59_21
theorem k59_22 : cod 59 22 = some (.iand, 1, 0, 0, 0, 0) := rfl
theorem e59_22 (x y : Int32) (ls : mL) (st : List Value) (σ : mS) : ev 59 22 ls (.int y :: .int x :: st) σ = ev 59 23 ls (.int (x &&& y) :: st) σ := e_iand k59_22
theorem k59_23 : cod 59 23 = some (.putfield 107, 3, 6, 11, 0, 0) := rfl
theorem e59_23 (x : Int32) (t : Nat) (ls : mL) (st : List Value) (σ : mS) : ev 59 23 ls (.int x :: .ref t :: st) σ = pfK (σ.1 t) 6 11 (.int x) (fun e => ev 59 26 ls st (mset σ t e)) := e_putI k59_23
theorem k59_26 : cod 59 26 = some (.iconst 0, 1, 0, 0, 0, 0) := rfl
theorem e59_26 (ls : mL) (st : List Value) (σ : mS) : ev 59 26 ls st σ = ev 59 27 ls (.int 0 :: st) σ := e_iconst 0 k59_26 (by decide)
theorem k59_27 : cod 59 27 = some (.istore_n 1, 1, 0, 0, 0, 0) := rfl
theorem e59_27i (y : Int32) (o : Option Value) (x : Int32) (ls : mL) (st : List Value) (σ : mS) : ev 59 27 (some (.int y) :: o :: ls) (.int x :: st) σ = ev 59 28 (some (.int y) :: some (.int x) :: ls) st σ := e_istore1 k59_27 (Nat.le_add_left 2 ls.length)
theorem e59_27n (o : Option Value) (x : Int32) (ls : mL) (st : List Value) (σ : mS) : ev 59 27 (none :: o :: ls) (.int x :: st) σ = ev 59 28 (none :: some (.int x) :: ls) st σ := e_istore1 k59_27 (Nat.le_add_left 2 ls.length)
theorem e59_27r (y : Nat) (o : Option Value) (x : Int32) (ls : mL) (st : List Value) (σ : mS) : ev 59 27 (some (.ref y) :: o :: ls) (.int x :: st) σ = ev 59 28 (some (.ref y) :: some (.int x) :: ls) st σ := e_istore1 k59_27 (Nat.le_add_left 2 ls.length)
theorem k59_28 : cod 59 28 = some (.iload_n 1, 1, 0, 0, 0, 0) := rfl
theorem e59_28 (a0 : Option Value) (x : Int32) (ls : mL) (st : List Value) (σ : mS) : ev 59 28 (a0 :: some (.int x) :: ls) st σ = ev 59 29 (a0 :: some (.int x) :: ls) (.int x :: st) σ := e_iload1 k59_28 rfl
theorem k59_29 : cod 59 29 = some (.bipush (16), 2, 0, 0, 0, 0) := rfl
theorem e59_29 (ls : mL) (st : List Value) (σ : mS) : ev 59 29 ls st σ = ev 59 31 ls (.int 16 :: st) σ := e_bipush 16 k59_29 (by decide)
theorem k59_31 : cod 59 31 = some (.if_icmp .ge (21), 3, 52, 0, 0, 0) := rfl
theorem e59_31 (x y : Int32) (ls : mL) (st : List Value) (σ : mS) : ev 59 31 ls (.int y :: .int x :: st) σ = if y ≤ x then ev 59 52 ls st σ else ev 59 34 ls st σ := e_ic_ge k59_31
theorem k59_34 : cod 59 34 = some (.aload_n 0, 1, 0, 0, 0, 0) := rfl
theorem e59_34 (x : Nat) (ls : mL) (st : List Value) (σ : mS) : ev 59 34 (some (.ref x) :: ls) st σ = ev 59 35 (some (.ref x) :: ls) (.ref x :: st) σ := e_aload1 k59_34 rfl
theorem k59_35 : cod 59 35 = some (.aload_n 0, 1, 0, 0, 0, 0) := rfl
theorem e59_35 (x : Nat) (ls : mL) (st : List Value) (σ : mS) : ev 59 35 (some (.ref x) :: ls) st σ = ev 59 36 (some (.ref x) :: ls) (.ref x :: st) σ := e_aload1 k59_35 rfl
theorem k59_36 : cod 59 36 = some (.aload_n 0, 1, 0, 0, 0, 0) := rfl
theorem e59_36 (x : Nat) (ls : mL) (st : List Value) (σ : mS) : ev 59 36 (some (.ref x) :: ls) st σ = ev 59 37 (some (.ref x) :: ls) (.ref x :: st) σ := e_aload1 k59_36 rfl
theorem k59_37 : cod 59 37 = some (.getfield 107, 3, 6, 11, 0, 0) := rfl
theorem e59_37 (t : Nat) (ls : mL) (st : List Value) (σ : mS) : ev 59 37 ls (.ref t :: st) σ = gfK (σ.1 t) 6 11 (fun v => ev 59 40 ls (v :: st) σ) := e_getf k59_37
theorem k59_40 : cod 59 40 = some (.invokevirtual 110, 3, 65, 1, 0, 6) := rfl
theorem e59_40 (t : Nat) (x0 : Int32) (ls : mL) (st : List Value) (σ : mS) (hm : mCat st ≤ 8) : ev 59 40 ls (.int x0 :: .ref t :: st) σ = isC (σ.1 t) 6 ((evM 65 [.ref t, .int x0] σ).bind fun z => ev 59 43 ls (z.1.toList ++ st) z.2) := e_callVK k59_40 (by decide) rfl ⟨hm, Nat.le_of_ble_eq_true rfl⟩
theorem k59_43 : cod 59 43 = some (.putfield 107, 3, 6, 11, 0, 0) := rfl
theorem e59_43 (x : Int32) (t : Nat) (ls : mL) (st : List Value) (σ : mS) : ev 59 43 ls (.int x :: .ref t :: st) σ = pfK (σ.1 t) 6 11 (.int x) (fun e => ev 59 46 ls st (mset σ t e)) := e_putI k59_43
theorem k59_46 : cod 59 46 = some (.iinc 1 (1), 3, 0, 0, 0, 0) := rfl
theorem e59_46i (y : Int32) (x : Int32) (ls : mL) (st : List Value) (σ : mS) : ev 59 46 (some (.int y) :: some (.int x) :: ls) st σ = ev 59 49 (some (.int y) :: some (.int (x + 1)) :: ls) st σ := e_iinc 1 k59_46 (by decide) rfl
theorem e59_46n (x : Int32) (ls : mL) (st : List Value) (σ : mS) : ev 59 46 (none :: some (.int x) :: ls) st σ = ev 59 49 (none :: some (.int (x + 1)) :: ls) st σ := e_iinc 1 k59_46 (by decide) rfl
theorem e59_46r (y : Nat) (x : Int32) (ls : mL) (st : List Value) (σ : mS) : ev 59 46 (some (.ref y) :: some (.int x) :: ls) st σ = ev 59 49 (some (.ref y) :: some (.int (x + 1)) :: ls) st σ := e_iinc 1 k59_46 (by decide) rfl
theorem k59_49 : cod 59 49 = some (.goto (-21), 3, 28, 0, 0, 0) := rfl
theorem e59_49 (ls : mL) (st : List Value) (σ : mS) : ev 59 49 ls st σ = ev 59 28 ls st σ := e_goto k59_49
theorem k59_52 : cod 59 52 = some (.iconst 0, 1, 0, 0, 0, 0) := rfl
theorem e59_52 (ls : mL) (st : List Value) (σ : mS) : ev 59 52 ls st σ = ev 59 53 ls (.int 0 :: st) σ := e_iconst 0 k59_52 (by decide)
theorem k59_53 : cod 59 53 = some (.istore_n 1, 1, 0, 0, 0, 0) := rfl
theorem e59_53i (y : Int32) (o : Option Value) (x : Int32) (ls : mL) (st : List Value) (σ : mS) : ev 59 53 (some (.int y) :: o :: ls) (.int x :: st) σ = ev 59 54 (some (.int y) :: some (.int x) :: ls) st σ := e_istore1 k59_53 (Nat.le_add_left 2 ls.length)
theorem e59_53n (o : Option Value) (x : Int32) (ls : mL) (st : List Value) (σ : mS) : ev 59 53 (none :: o :: ls) (.int x :: st) σ = ev 59 54 (none :: some (.int x) :: ls) st σ := e_istore1 k59_53 (Nat.le_add_left 2 ls.length)
theorem e59_53r (y : Nat) (o : Option Value) (x : Int32) (ls : mL) (st : List Value) (σ : mS) : ev 59 53 (some (.ref y) :: o :: ls) (.int x :: st) σ = ev 59 54 (some (.ref y) :: some (.int x) :: ls) st σ := e_istore1 k59_53 (Nat.le_add_left 2 ls.length)
theorem k59_54 : cod 59 54 = some (.iload_n 1, 1, 0, 0, 0, 0) := rfl
theorem e59_54 (a0 : Option Value) (x : Int32) (ls : mL) (st : List Value) (σ : mS) : ev 59 54 (a0 :: some (.int x) :: ls) st σ = ev 59 55 (a0 :: some (.int x) :: ls) (.int x :: st) σ := e_iload1 k59_54 rfl
theorem k59_55 : cod 59 55 = some (.bipush (16), 2, 0, 0, 0, 0) := rfl
theorem e59_55 (ls : mL) (st : List Value) (σ : mS) : ev 59 55 ls st σ = ev 59 57 ls (.int 16 :: st) σ := e_bipush 16 k59_55 (by decide)
theorem k59_57 : cod 59 57 = some (.if_icmp .ge (39), 3, 96, 0, 0, 0) := rfl
theorem e59_57 (x y : Int32) (ls : mL) (st : List Value) (σ : mS) : ev 59 57 ls (.int y :: .int x :: st) σ = if y ≤ x then ev 59 96 ls st σ else ev 59 60 ls st σ := e_ic_ge k59_57
theorem k59_60 : cod 59 60 = some (.aload_n 0, 1, 0, 0, 0, 0) := rfl
theorem e59_60 (x : Nat) (ls : mL) (st : List Value) (σ : mS) : ev 59 60 (some (.ref x) :: ls) st σ = ev 59 61 (some (.ref x) :: ls) (.ref x :: st) σ := e_aload1 k59_60 rfl
theorem k59_61 : cod 59 61 = some (.getfield 27, 3, 6, 12, 0, 3) := rfl
theorem e59_61 (t : Nat) (ls : mL) (st : List Value) (σ : mS) : ev 59 61 ls (.ref t :: st) σ = gfK (σ.1 t) 6 12 (fun v => ev 59 64 ls (v :: st) σ) := e_getf k59_61
theorem k59_64 : cod 59 64 = some (.iload_n 1, 1, 0, 0, 0, 0) := rfl
theorem e59_64 (a0 : Option Value) (x : Int32) (ls : mL) (st : List Value) (σ : mS) : ev 59 64 (a0 :: some (.int x) :: ls) st σ = ev 59 65 (a0 :: some (.int x) :: ls) (.int x :: st) σ := e_iload1 k59_64 rfl
theorem k59_65 : cod 59 65 = some (.aload_n 0, 1, 0, 0, 0, 0) := rfl
theorem e59_65 (x : Nat) (ls : mL) (st : List Value) (σ : mS) : ev 59 65 (some (.ref x) :: ls) st σ = ev 59 66 (some (.ref x) :: ls) (.ref x :: st) σ := e_aload1 k59_65 rfl
theorem k59_66 : cod 59 66 = some (.getfield 107, 3, 6, 11, 0, 0) := rfl
theorem e59_66 (t : Nat) (ls : mL) (st : List Value) (σ : mS) : ev 59 66 ls (.ref t :: st) σ = gfK (σ.1 t) 6 11 (fun v => ev 59 69 ls (v :: st) σ) := e_getf k59_66
theorem k59_69 : cod 59 69 = some (.iload_n 1, 1, 0, 0, 0, 0) := rfl
theorem e59_69 (a0 : Option Value) (x : Int32) (ls : mL) (st : List Value) (σ : mS) : ev 59 69 (a0 :: some (.int x) :: ls) st σ = ev 59 70 (a0 :: some (.int x) :: ls) (.int x :: st) σ := e_iload1 k59_69 rfl
theorem k59_70 : cod 59 70 = some (.invokestatic 74, 3, 84, 2, 1, 0) := rfl
theorem e59_70 (x0 : Int32) (x1 : Int32) (ls : mL) (st : List Value) (σ : mS) (hm : mCat st ≤ 8) : ev 59 70 ls (.int x1 :: .int x0 :: st) σ = (evM 84 [.int x0, .int x1] σ).bind fun z => ev 59 73 ls (z.1.toList ++ st) z.2 := e_callS k59_70 (by decide) rfl ⟨hm, Nat.le_of_ble_eq_true rfl⟩
theorem k59_73 : cod 59 73 = some (.ifCond .eq (15), 3, 88, 0, 0, 0) := rfl
theorem e59_73 (x : Int32) (ls : mL) (st : List Value) (σ : mS) : ev 59 73 ls (.int x :: st) σ = if x = 0 then ev 59 88 ls st σ else ev 59 76 ls st σ := e_if_eq k59_73
theorem k59_76 : cod 59 76 = some (.aload_n 0, 1, 0, 0, 0, 0) := rfl
theorem e59_76 (x : Nat) (ls : mL) (st : List Value) (σ : mS) : ev 59 76 (some (.ref x) :: ls) st σ = ev 59 77 (some (.ref x) :: ls) (.ref x :: st) σ := e_aload1 k59_76 rfl
theorem k59_77 : cod 59 77 = some (.iload_n 1, 1, 0, 0, 0, 0) := rfl
theorem e59_77 (a0 : Option Value) (x : Int32) (ls : mL) (st : List Value) (σ : mS) : ev 59 77 (a0 :: some (.int x) :: ls) st σ = ev 59 78 (a0 :: some (.int x) :: ls) (.int x :: st) σ := e_iload1 k59_77 rfl
theorem k59_78 : cod 59 78 = some (.aload_n 0, 1, 0, 0, 0, 0) := rfl
theorem e59_78 (x : Nat) (ls : mL) (st : List Value) (σ : mS) : ev 59 78 (some (.ref x) :: ls) st σ = ev 59 79 (some (.ref x) :: ls) (.ref x :: st) σ := e_aload1 k59_78 rfl
theorem k59_79 : cod 59 79 = some (.getfield 107, 3, 6, 11, 0, 0) := rfl
theorem e59_79 (t : Nat) (ls : mL) (st : List Value) (σ : mS) : ev 59 79 ls (.ref t :: st) σ = gfK (σ.1 t) 6 11 (fun v => ev 59 82 ls (v :: st) σ) := e_getf k59_79
theorem k59_82 : cod 59 82 = some (.invokevirtual 113, 3, 61, 2, 0, 6) := rfl
theorem e59_82 (t : Nat) (x0 : Int32) (x1 : Int32) (ls : mL) (st : List Value) (σ : mS) (hm : mCat st ≤ 8) : ev 59 82 ls (.int x1 :: .int x0 :: .ref t :: st) σ = isC (σ.1 t) 6 ((evM 61 [.ref t, .int x0, .int x1] σ).bind fun z => ev 59 85 ls (z.1.toList ++ st) z.2) := e_callVK k59_82 (by decide) rfl ⟨hm, Nat.le_of_ble_eq_true rfl⟩
theorem k59_85 : cod 59 85 = some (.goto (4), 3, 89, 0, 0, 0) := rfl
theorem e59_85 (ls : mL) (st : List Value) (σ : mS) : ev 59 85 ls st σ = ev 59 89 ls st σ := e_goto k59_85
theorem k59_88 : cod 59 88 = some (.iconst 0, 1, 0, 0, 0, 0) := rfl
theorem e59_88 (ls : mL) (st : List Value) (σ : mS) : ev 59 88 ls st σ = ev 59 89 ls (.int 0 :: st) σ := e_iconst 0 k59_88 (by decide)
theorem k59_89 : cod 59 89 = some (.iastore, 1, 0, 0, 0, 0) := rfl
theorem e59_89 (j x : Int32) (t : Nat) (ls : mL) (st : List Value) (σ : mS) : ev 59 89 ls (.int x :: .int j :: .ref t :: st) σ = asK (σ.1 t) 0 j x (fun e => ev 59 90 ls st (mset σ t e)) := e_iast k59_89
theorem k59_90 : cod 59 90 = some (.iinc 1 (1), 3, 0, 0, 0, 0) := rfl
theorem e59_90i (y : Int32) (x : Int32) (ls : mL) (st : List Value) (σ : mS) : ev 59 90 (some (.int y) :: some (.int x) :: ls) st σ = ev 59 93 (some (.int y) :: some (.int (x + 1)) :: ls) st σ := e_iinc 1 k59_90 (by decide) rfl
theorem e59_90n (x : Int32) (ls : mL) (st : List Value) (σ : mS) : ev 59 90 (none :: some (.int x) :: ls) st σ = ev 59 93 (none :: some (.int (x + 1)) :: ls) st σ := e_iinc 1 k59_90 (by decide) rfl
theorem e59_90r (y : Nat) (x : Int32) (ls : mL) (st : List Value) (σ : mS) : ev 59 90 (some (.ref y) :: some (.int x) :: ls) st σ = ev 59 93 (some (.ref y) :: some (.int (x + 1)) :: ls) st σ := e_iinc 1 k59_90 (by decide) rfl
theorem k59_93 : cod 59 93 = some (.goto (-39), 3, 54, 0, 0, 0) := rfl
theorem e59_93 (ls : mL) (st : List Value) (σ : mS) : ev 59 93 ls st σ = ev 59 54 ls st σ := e_goto k59_93
theorem k59_96 : cod 59 96 = some (.aload_n 0, 1, 0, 0, 0, 0) := rfl
theorem e59_96 (x : Nat) (ls : mL) (st : List Value) (σ : mS) : ev 59 96 (some (.ref x) :: ls) st σ = ev 59 97 (some (.ref x) :: ls) (.ref x :: st) σ := e_aload1 k59_96 rfl
theorem k59_97 : cod 59 97 = some (.invokevirtual 116, 3, 66, 0, 0, 6) := rfl
theorem e59_97 (t : Nat) (ls : mL) (st : List Value) (σ : mS) (hm : mCat st ≤ 8) : ev 59 97 ls (.ref t :: st) σ = isC (σ.1 t) 6 ((evM 66 [.ref t] σ).bind fun z => ev 59 100 ls (z.1.toList ++ st) z.2) := e_callVK k59_97 (by decide) rfl ⟨hm, Nat.le_of_ble_eq_true rfl⟩
theorem k59_100 : cod 59 100 = some (.aload_n 0, 1, 0, 0, 0, 0) := rfl
theorem e59_100 (x : Nat) (ls : mL) (st : List Value) (σ : mS) : ev 59 100 (some (.ref x) :: ls) st σ = ev 59 101 (some (.ref x) :: ls) (.ref x :: st) σ := e_aload1 k59_100 rfl
theorem k59_101 : cod 59 101 = some (.aload_n 0, 1, 0, 0, 0, 0) := rfl
theorem e59_101 (x : Nat) (ls : mL) (st : List Value) (σ : mS) : ev 59 101 (some (.ref x) :: ls) st σ = ev 59 102 (some (.ref x) :: ls) (.ref x :: st) σ := e_aload1 k59_101 rfl
theorem k59_102 : cod 59 102 = some (.getfield 56, 3, 6, 8, 0, 0) := rfl
theorem e59_102 (t : Nat) (ls : mL) (st : List Value) (σ : mS) : ev 59 102 ls (.ref t :: st) σ = gfK (σ.1 t) 6 8 (fun v => ev 59 105 ls (v :: st) σ) := e_getf k59_102
theorem k59_105 : cod 59 105 = some (.aload_n 0, 1, 0, 0, 0, 0) := rfl
theorem e59_105 (x : Nat) (ls : mL) (st : List Value) (σ : mS) : ev 59 105 (some (.ref x) :: ls) st σ = ev 59 106 (some (.ref x) :: ls) (.ref x :: st) σ := e_aload1 k59_105 rfl
theorem k59_106 : cod 59 106 = some (.getfield 33, 3, 6, 14, 0, 3) := rfl
theorem e59_106 (t : Nat) (ls : mL) (st : List Value) (σ : mS) : ev 59 106 ls (.ref t :: st) σ = gfK (σ.1 t) 6 14 (fun v => ev 59 109 ls (v :: st) σ) := e_getf k59_106
theorem k59_109 : cod 59 109 = some (.invokevirtual 119, 3, 67, 2, 0, 6) := rfl
theorem e59_109 (t : Nat) (x0 : Int32) (x1 : Nat) (ls : mL) (st : List Value) (σ : mS) (hm : mCat st ≤ 8) : ev 59 109 ls (.ref x1 :: .int x0 :: .ref t :: st) σ = isC (σ.1 t) 6 ((evM 67 [.ref t, .int x0, .ref x1] σ).bind fun z => ev 59 112 ls (z.1.toList ++ st) z.2) := e_callVK k59_109 (by decide) rfl ⟨hm, Nat.le_of_ble_eq_true rfl⟩
theorem k59_112 : cod 59 112 = some (.aload_n 0, 1, 0, 0, 0, 0) := rfl
theorem e59_112 (x : Nat) (ls : mL) (st : List Value) (σ : mS) : ev 59 112 (some (.ref x) :: ls) st σ = ev 59 113 (some (.ref x) :: ls) (.ref x :: st) σ := e_aload1 k59_112 rfl
theorem k59_113 : cod 59 113 = some (.aload_n 0, 1, 0, 0, 0, 0) := rfl
theorem e59_113 (x : Nat) (ls : mL) (st : List Value) (σ : mS) : ev 59 113 (some (.ref x) :: ls) st σ = ev 59 114 (some (.ref x) :: ls) (.ref x :: st) σ := e_aload1 k59_113 rfl
theorem k59_114 : cod 59 114 = some (.getfield 59, 3, 6, 9, 0, 0) := rfl
theorem e59_114 (t : Nat) (ls : mL) (st : List Value) (σ : mS) : ev 59 114 ls (.ref t :: st) σ = gfK (σ.1 t) 6 9 (fun v => ev 59 117 ls (v :: st) σ) := e_getf k59_114
theorem k59_117 : cod 59 117 = some (.aload_n 0, 1, 0, 0, 0, 0) := rfl
theorem e59_117 (x : Nat) (ls : mL) (st : List Value) (σ : mS) : ev 59 117 (some (.ref x) :: ls) st σ = ev 59 118 (some (.ref x) :: ls) (.ref x :: st) σ := e_aload1 k59_117 rfl
theorem k59_118 : cod 59 118 = some (.getfield 36, 3, 6, 15, 0, 3) := rfl
theorem e59_118 (t : Nat) (ls : mL) (st : List Value) (σ : mS) : ev 59 118 ls (.ref t :: st) σ = gfK (σ.1 t) 6 15 (fun v => ev 59 121 ls (v :: st) σ) := e_getf k59_118
theorem k59_121 : cod 59 121 = some (.invokevirtual 119, 3, 67, 2, 0, 6) := rfl
theorem e59_121 (t : Nat) (x0 : Int32) (x1 : Nat) (ls : mL) (st : List Value) (σ : mS) (hm : mCat st ≤ 8) : ev 59 121 ls (.ref x1 :: .int x0 :: .ref t :: st) σ = isC (σ.1 t) 6 ((evM 67 [.ref t, .int x0, .ref x1] σ).bind fun z => ev 59 124 ls (z.1.toList ++ st) z.2) := e_callVK k59_121 (by decide) rfl ⟨hm, Nat.le_of_ble_eq_true rfl⟩
theorem k59_124 : cod 59 124 = some (.return_, 1, 0, 0, 0, 0) := rfl
theorem e59_124 (ls : mL) (σ : mS) : ev 59 124 ls [] σ = some (none, σ) := e_vret k59_124 rfl
theorem m59 (t : Nat) (σ : mS) : evM 59 [.ref t] σ = ev 59 0 [some (.ref t), none] [] σ := rfl
theorem k60_0 : cod 60 0 = some (.iconst 0, 1, 0, 0, 0, 0) := rfl
theorem e60_0 (ls : mL) (st : List Value) (σ : mS) : ev 60 0 ls st σ = ev 60 1 ls (.int 0 :: st) σ := e_iconst 0 k60_0 (by decide)
theorem k60_1 : cod 60 1 = some (.istore_n 1, 1, 0, 0, 0, 0) := rfl
theorem e60_1i (y : Int32) (o : Option Value) (x : Int32) (ls : mL) (st : List Value) (σ : mS) : ev 60 1 (some (.int y) :: o :: ls) (.int x :: st) σ = ev 60 2 (some (.int y) :: some (.int x) :: ls) st σ := e_istore1 k60_1 (Nat.le_add_left 2 ls.length)
theorem e60_1n (o : Option Value) (x : Int32) (ls : mL) (st : List Value) (σ : mS) : ev 60 1 (none :: o :: ls) (.int x :: st) σ = ev 60 2 (none :: some (.int x) :: ls) st σ := e_istore1 k60_1 (Nat.le_add_left 2 ls.length)
theorem e60_1r (y : Nat) (o : Option Value) (x : Int32) (ls : mL) (st : List Value) (σ : mS) : ev 60 1 (some (.ref y) :: o :: ls) (.int x :: st) σ = ev 60 2 (some (.ref y) :: some (.int x) :: ls) st σ := e_istore1 k60_1 (Nat.le_add_left 2 ls.length)
theorem k60_2 : cod 60 2 = some (.iconst 0, 1, 0, 0, 0, 0) := rfl
theorem e60_2 (ls : mL) (st : List Value) (σ : mS) : ev 60 2 ls st σ = ev 60 3 ls (.int 0 :: st) σ := e_iconst 0 k60_2 (by decide)
theorem k60_3 : cod 60 3 = some (.istore_n 2, 1, 0, 0, 0, 0) := rfl
theorem e60_3i (a0 : Option Value) (y : Int32) (o : Option Value) (x : Int32) (ls : mL) (st : List Value) (σ : mS) : ev 60 3 (a0 :: some (.int y) :: o :: ls) (.int x :: st) σ = ev 60 4 (a0 :: some (.int y) :: some (.int x) :: ls) st σ := e_istore1 k60_3 (Nat.le_add_left 3 ls.length)
theorem e60_3n (a0 : Option Value) (o : Option Value) (x : Int32) (ls : mL) (st : List Value) (σ : mS) : ev 60 3 (a0 :: none :: o :: ls) (.int x :: st) σ = ev 60 4 (a0 :: none :: some (.int x) :: ls) st σ := e_istore1 k60_3 (Nat.le_add_left 3 ls.length)
theorem e60_3r (a0 : Option Value) (y : Nat) (o : Option Value) (x : Int32) (ls : mL) (st : List Value) (σ : mS) : ev 60 3 (a0 :: some (.ref y) :: o :: ls) (.int x :: st) σ = ev 60 4 (a0 :: some (.ref y) :: some (.int x) :: ls) st σ := e_istore1 k60_3 (Nat.le_add_left 3 ls.length)
theorem k60_4 : cod 60 4 = some (.iload_n 2, 1, 0, 0, 0, 0) := rfl
theorem e60_4 (a0 a1 : Option Value) (x : Int32) (ls : mL) (st : List Value) (σ : mS) : ev 60 4 (a0 :: a1 :: some (.int x) :: ls) st σ = ev 60 5 (a0 :: a1 :: some (.int x) :: ls) (.int x :: st) σ := e_iload1 k60_4 rfl
theorem k60_5 : cod 60 5 = some (.bipush (16), 2, 0, 0, 0, 0) := rfl
theorem e60_5 (ls : mL) (st : List Value) (σ : mS) : ev 60 5 ls st σ = ev 60 7 ls (.int 16 :: st) σ := e_bipush 16 k60_5 (by decide)
theorem k60_7 : cod 60 7 = some (.if_icmp .ge (36), 3, 43, 0, 0, 0) := rfl
theorem e60_7 (x y : Int32) (ls : mL) (st : List Value) (σ : mS) : ev 60 7 ls (.int y :: .int x :: st) σ = if y ≤ x then ev 60 43 ls st σ else ev 60 10 ls st σ := e_ic_ge k60_7
theorem k60_10 : cod 60 10 = some (.aload_n 0, 1, 0, 0, 0, 0) := rfl
theorem e60_10 (x : Nat) (ls : mL) (st : List Value) (σ : mS) : ev 60 10 (some (.ref x) :: ls) st σ = ev 60 11 (some (.ref x) :: ls) (.ref x :: st) σ := e_aload1 k60_10 rfl
theorem k60_11 : cod 60 11 = some (.getfield 59, 3, 6, 9, 0, 0) := rfl
theorem e60_11 (t : Nat) (ls : mL) (st : List Value) (σ : mS) : ev 60 11 ls (.ref t :: st) σ = gfK (σ.1 t) 6 9 (fun v => ev 60 14 ls (v :: st) σ) := e_getf k60_11
theorem k60_14 : cod 60 14 = some (.iload_n 2, 1, 0, 0, 0, 0) := rfl
theorem e60_14 (a0 a1 : Option Value) (x : Int32) (ls : mL) (st : List Value) (σ : mS) : ev 60 14 (a0 :: a1 :: some (.int x) :: ls) st σ = ev 60 15 (a0 :: a1 :: some (.int x) :: ls) (.int x :: st) σ := e_iload1 k60_14 rfl
theorem k60_15 : cod 60 15 = some (.invokestatic 74, 3, 84, 2, 1, 0) := rfl
theorem e60_15 (x0 : Int32) (x1 : Int32) (ls : mL) (st : List Value) (σ : mS) (hm : mCat st ≤ 8) : ev 60 15 ls (.int x1 :: .int x0 :: st) σ = (evM 84 [.int x0, .int x1] σ).bind fun z => ev 60 18 ls (z.1.toList ++ st) z.2 := e_callS k60_15 (by decide) rfl ⟨hm, Nat.le_of_ble_eq_true rfl⟩
theorem k60_18 : cod 60 18 = some (.ifCond .ne (19), 3, 37, 0, 0, 0) := rfl
theorem e60_18 (x : Int32) (ls : mL) (st : List Value) (σ : mS) : ev 60 18 ls (.int x :: st) σ = if x = 0 then ev 60 21 ls st σ else ev 60 37 ls st σ := e_if_ne k60_18
theorem k60_21 : cod 60 21 = some (.aload_n 0, 1, 0, 0, 0, 0) := rfl
theorem e60_21 (x : Nat) (ls : mL) (st : List Value) (σ : mS) : ev 60 21 (some (.ref x) :: ls) st σ = ev 60 22 (some (.ref x) :: ls) (.ref x :: st) σ := e_aload1 k60_21 rfl
theorem k60_22 : cod 60 22 = some (.iload_n 2, 1, 0, 0, 0, 0) := rfl
theorem e60_22 (a0 a1 : Option Value) (x : Int32) (ls : mL) (st : List Value) (σ : mS) : ev 60 22 (a0 :: a1 :: some (.int x) :: ls) st σ = ev 60 23 (a0 :: a1 :: some (.int x) :: ls) (.int x :: st) σ := e_iload1 k60_22 rfl
theorem k60_23 : cod 60 23 = some (.ldc 106, 2, 65535, 0, 0, 0) := rfl
theorem e60_23 (ls : mL) (st : List Value) (σ : mS) : ev 60 23 ls st σ = ev 60 25 ls (.int 65535 :: st) σ := e_ldcI 65535 k60_23 (by decide)
theorem k60_25 : cod 60 25 = some (.invokevirtual 113, 3, 61, 2, 0, 6) := rfl
theorem e60_25 (t : Nat) (x0 : Int32) (x1 : Int32) (ls : mL) (st : List Value) (σ : mS) (hm : mCat st ≤ 8) : ev 60 25 ls (.int x1 :: .int x0 :: .ref t :: st) σ = isC (σ.1 t) 6 ((evM 61 [.ref t, .int x0, .int x1] σ).bind fun z => ev 60 28 ls (z.1.toList ++ st) z.2) := e_callVK k60_25 (by decide) rfl ⟨hm, Nat.le_of_ble_eq_true rfl⟩
theorem k60_28 : cod 60 28 = some (.ifCond .ne (9), 3, 37, 0, 0, 0) := rfl
theorem e60_28 (x : Int32) (ls : mL) (st : List Value) (σ : mS) : ev 60 28 ls (.int x :: st) σ = if x = 0 then ev 60 31 ls st σ else ev 60 37 ls st σ := e_if_ne k60_28
theorem k60_31 : cod 60 31 = some (.iload_n 1, 1, 0, 0, 0, 0) := rfl
theorem e60_31 (a0 : Option Value) (x : Int32) (ls : mL) (st : List Value) (σ : mS) : ev 60 31 (a0 :: some (.int x) :: ls) st σ = ev 60 32 (a0 :: some (.int x) :: ls) (.int x :: st) σ := e_iload1 k60_31 rfl
theorem k60_32 : cod 60 32 = some (.iconst 1, 1, 0, 0, 0, 0) := rfl
theorem e60_32 (ls : mL) (st : List Value) (σ : mS) : ev 60 32 ls st σ = ev 60 33 ls (.int 1 :: st) σ := e_iconst 1 k60_32 (by decide)
theorem k60_33 : cod 60 33 = some (.iload_n 2, 1, 0, 0, 0, 0) := rfl
theorem e60_33 (a0 a1 : Option Value) (x : Int32) (ls : mL) (st : List Value) (σ : mS) : ev 60 33 (a0 :: a1 :: some (.int x) :: ls) st σ = ev 60 34 (a0 :: a1 :: some (.int x) :: ls) (.int x :: st) σ := e_iload1 k60_33 rfl
theorem k60_34 : cod 60 34 = some (.ishl, 1, 0, 0, 0, 0) := rfl
theorem e60_34 (x y : Int32) (ls : mL) (st : List Value) (σ : mS) : ev 60 34 ls (.int y :: .int x :: st) σ = ev 60 35 ls (.int (x <<< (y &&& 31)) :: st) σ := e_ishl k60_34
theorem k60_35 : cod 60 35 = some (.ior, 1, 0, 0, 0, 0) := rfl
theorem e60_35 (x y : Int32) (ls : mL) (st : List Value) (σ : mS) : ev 60 35 ls (.int y :: .int x :: st) σ = ev 60 36 ls (.int (x ||| y) :: st) σ := e_ior k60_35
theorem k60_36 : cod 60 36 = some (.istore_n 1, 1, 0, 0, 0, 0) := rfl
theorem e60_36i (y : Int32) (o : Option Value) (x : Int32) (ls : mL) (st : List Value) (σ : mS) : ev 60 36 (some (.int y) :: o :: ls) (.int x :: st) σ = ev 60 37 (some (.int y) :: some (.int x) :: ls) st σ := e_istore1 k60_36 (Nat.le_add_left 2 ls.length)
theorem e60_36n (o : Option Value) (x : Int32) (ls : mL) (st : List Value) (σ : mS) : ev 60 36 (none :: o :: ls) (.int x :: st) σ = ev 60 37 (none :: some (.int x) :: ls) st σ := e_istore1 k60_36 (Nat.le_add_left 2 ls.length)
theorem e60_36r (y : Nat) (o : Option Value) (x : Int32) (ls : mL) (st : List Value) (σ : mS) : ev 60 36 (some (.ref y) :: o :: ls) (.int x :: st) σ = ev 60 37 (some (.ref y) :: some (.int x) :: ls) st σ := e_istore1 k60_36 (Nat.le_add_left 2 ls.length)
theorem k60_37 : cod 60 37 = some (.iinc 2 (1), 3, 0, 0, 0, 0) := rfl
theorem e60_37i (a0 : Option Value) (y : Int32) (x : Int32) (ls : mL) (st : List Value) (σ : mS) : ev 60 37 (a0 :: some (.int y) :: some (.int x) :: ls) st σ = ev 60 40 (a0 :: some (.int y) :: some (.int (x + 1)) :: ls) st σ := e_iinc 1 k60_37 (by decide) rfl
theorem e60_37n (a0 : Option Value) (x : Int32) (ls : mL) (st : List Value) (σ : mS) : ev 60 37 (a0 :: none :: some (.int x) :: ls) st σ = ev 60 40 (a0 :: none :: some (.int (x + 1)) :: ls) st σ := e_iinc 1 k60_37 (by decide) rfl
theorem e60_37r (a0 : Option Value) (y : Nat) (x : Int32) (ls : mL) (st : List Value) (σ : mS) : ev 60 37 (a0 :: some (.ref y) :: some (.int x) :: ls) st σ = ev 60 40 (a0 :: some (.ref y) :: some (.int (x + 1)) :: ls) st σ := e_iinc 1 k60_37 (by decide) rfl
theorem k60_40 : cod 60 40 = some (.goto (-36), 3, 4, 0, 0, 0) := rfl
theorem e60_40 (ls : mL) (st : List Value) (σ : mS) : ev 60 40 ls st σ = ev 60 4 ls st σ := e_goto k60_40
theorem k60_43 : cod 60 43 = some (.iload_n 1, 1, 0, 0, 0, 0) := rfl
theorem e60_43 (a0 : Option Value) (x : Int32) (ls : mL) (st : List Value) (σ : mS) : ev 60 43 (a0 :: some (.int x) :: ls) st σ = ev 60 44 (a0 :: some (.int x) :: ls) (.int x :: st) σ := e_iload1 k60_43 rfl
theorem k60_44 : cod 60 44 = some (.ireturn, 1, 0, 0, 0, 0) := rfl
theorem e60_44 (x : Int32) (ls : mL) (σ : mS) : ev 60 44 ls [.int x] σ = some (some (.int x), σ) := e_iret k60_44 rfl
theorem m60 (t : Nat) (σ : mS) : evM 60 [.ref t] σ = ev 60 0 [some (.ref t), none, none] [] σ := rfl
theorem k61_0 : cod 61 0 = some (.iconst 0, 1, 0, 0, 0, 0) := rfl
theorem e61_0 (ls : mL) (st : List Value) (σ : mS) : ev 61 0 ls st σ = ev 61 1 ls (.int 0 :: st) σ := e_iconst 0 k61_0 (by decide)
theorem k61_1 : cod 61 1 = some (.istore_n 3, 1, 0, 0, 0, 0) := rfl
theorem e61_1i (a0 a1 : Option Value) (y : Int32) (o : Option Value) (x : Int32) (ls : mL) (st : List Value) (σ : mS) : ev 61 1 (a0 :: a1 :: some (.int y) :: o :: ls) (.int x :: st) σ = ev 61 2 (a0 :: a1 :: some (.int y) :: some (.int x) :: ls) st σ := e_istore1 k61_1 (Nat.le_add_left 4 ls.length)
theorem e61_1n (a0 a1 : Option Value) (o : Option Value) (x : Int32) (ls : mL) (st : List Value) (σ : mS) : ev 61 1 (a0 :: a1 :: none :: o :: ls) (.int x :: st) σ = ev 61 2 (a0 :: a1 :: none :: some (.int x) :: ls) st σ := e_istore1 k61_1 (Nat.le_add_left 4 ls.length)
theorem e61_1r (a0 a1 : Option Value) (y : Nat) (o : Option Value) (x : Int32) (ls : mL) (st : List Value) (σ : mS) : ev 61 1 (a0 :: a1 :: some (.ref y) :: o :: ls) (.int x :: st) σ = ev 61 2 (a0 :: a1 :: some (.ref y) :: some (.int x) :: ls) st σ := e_istore1 k61_1 (Nat.le_add_left 4 ls.length)
theorem k61_2 : cod 61 2 = some (.iconst 0, 1, 0, 0, 0, 0) := rfl
theorem e61_2 (ls : mL) (st : List Value) (σ : mS) : ev 61 2 ls st σ = ev 61 3 ls (.int 0 :: st) σ := e_iconst 0 k61_2 (by decide)
theorem k61_3 : cod 61 3 = some (.istore 4, 2, 0, 0, 0, 0) := rfl
theorem e61_3i (a0 a1 a2 : Option Value) (y : Int32) (o : Option Value) (x : Int32) (ls : mL) (st : List Value) (σ : mS) : ev 61 3 (a0 :: a1 :: a2 :: some (.int y) :: o :: ls) (.int x :: st) σ = ev 61 5 (a0 :: a1 :: a2 :: some (.int y) :: some (.int x) :: ls) st σ := e_istore0 k61_3 (Nat.le_add_left 5 ls.length)
theorem e61_3n (a0 a1 a2 : Option Value) (o : Option Value) (x : Int32) (ls : mL) (st : List Value) (σ : mS) : ev 61 3 (a0 :: a1 :: a2 :: none :: o :: ls) (.int x :: st) σ = ev 61 5 (a0 :: a1 :: a2 :: none :: some (.int x) :: ls) st σ := e_istore0 k61_3 (Nat.le_add_left 5 ls.length)
theorem e61_3r (a0 a1 a2 : Option Value) (y : Nat) (o : Option Value) (x : Int32) (ls : mL) (st : List Value) (σ : mS) : ev 61 3 (a0 :: a1 :: a2 :: some (.ref y) :: o :: ls) (.int x :: st) σ = ev 61 5 (a0 :: a1 :: a2 :: some (.ref y) :: some (.int x) :: ls) st σ := e_istore0 k61_3 (Nat.le_add_left 5 ls.length)
theorem k61_5 : cod 61 5 = some (.iload 4, 2, 0, 0, 0, 0) := rfl
theorem e61_5 (a0 a1 a2 a3 : Option Value) (x : Int32) (ls : mL) (st : List Value) (σ : mS) : ev 61 5 (a0 :: a1 :: a2 :: a3 :: some (.int x) :: ls) st σ = ev 61 7 (a0 :: a1 :: a2 :: a3 :: some (.int x) :: ls) (.int x :: st) σ := e_iload0 k61_5 rfl
theorem k61_7 : cod 61 7 = some (.bipush (8), 2, 0, 0, 0, 0) := rfl
theorem e61_7 (ls : mL) (st : List Value) (σ : mS) : ev 61 7 ls st σ = ev 61 9 ls (.int 8 :: st) σ := e_bipush 8 k61_7 (by decide)
theorem k61_9 : cod 61 9 = some (.if_icmp .ge (40), 3, 49, 0, 0, 0) := rfl
theorem e61_9 (x y : Int32) (ls : mL) (st : List Value) (σ : mS) : ev 61 9 ls (.int y :: .int x :: st) σ = if y ≤ x then ev 61 49 ls st σ else ev 61 12 ls st σ := e_ic_ge k61_9
theorem k61_12 : cod 61 12 = some (.aload_n 0, 1, 0, 0, 0, 0) := rfl
theorem e61_12 (x : Nat) (ls : mL) (st : List Value) (σ : mS) : ev 61 12 (some (.ref x) :: ls) st σ = ev 61 13 (some (.ref x) :: ls) (.ref x :: st) σ := e_aload1 k61_12 rfl
theorem k61_13 : cod 61 13 = some (.iload_n 1, 1, 0, 0, 0, 0) := rfl
theorem e61_13 (a0 : Option Value) (x : Int32) (ls : mL) (st : List Value) (σ : mS) : ev 61 13 (a0 :: some (.int x) :: ls) st σ = ev 61 14 (a0 :: some (.int x) :: ls) (.int x :: st) σ := e_iload1 k61_13 rfl
theorem k61_14 : cod 61 14 = some (.iload 4, 2, 0, 0, 0, 0) := rfl
theorem e61_14 (a0 a1 a2 a3 : Option Value) (x : Int32) (ls : mL) (st : List Value) (σ : mS) : ev 61 14 (a0 :: a1 :: a2 :: a3 :: some (.int x) :: ls) st σ = ev 61 16 (a0 :: a1 :: a2 :: a3 :: some (.int x) :: ls) (.int x :: st) σ := e_iload0 k61_14 rfl
theorem k61_16 : cod 61 16 = some (.invokevirtual 80, 3, 62, 2, 0, 6) := rfl
theorem e61_16 (t : Nat) (x0 : Int32) (x1 : Int32) (ls : mL) (st : List Value) (σ : mS) (hm : mCat st ≤ 8) : ev 61 16 ls (.int x1 :: .int x0 :: .ref t :: st) σ = isC (σ.1 t) 6 ((evM 62 [.ref t, .int x0, .int x1] σ).bind fun z => ev 61 19 ls (z.1.toList ++ st) z.2) := e_callVK k61_16 (by decide) rfl ⟨hm, Nat.le_of_ble_eq_true rfl⟩
theorem k61_19 : cod 61 19 = some (.ifCond .le (24), 3, 43, 0, 0, 0) := rfl
theorem e61_19 (x : Int32) (ls : mL) (st : List Value) (σ : mS) : ev 61 19 ls (.int x :: st) σ = if x ≤ 0 then ev 61 43 ls st σ else ev 61 22 ls st σ := e_if_le k61_19
theorem k61_22 : cod 61 22 = some (.aload_n 0, 1, 0, 0, 0, 0) := rfl
theorem e61_22 (x : Nat) (ls : mL) (st : List Value) (σ : mS) : ev 61 22 (some (.ref x) :: ls) st σ = ev 61 23 (some (.ref x) :: ls) (.ref x :: st) σ := e_aload1 k61_22 rfl
theorem k61_23 : cod 61 23 = some (.iload_n 1, 1, 0, 0, 0, 0) := rfl
theorem e61_23 (a0 : Option Value) (x : Int32) (ls : mL) (st : List Value) (σ : mS) : ev 61 23 (a0 :: some (.int x) :: ls) st σ = ev 61 24 (a0 :: some (.int x) :: ls) (.int x :: st) σ := e_iload1 k61_23 rfl
theorem k61_24 : cod 61 24 = some (.iload 4, 2, 0, 0, 0, 0) := rfl
theorem e61_24 (a0 a1 a2 a3 : Option Value) (x : Int32) (ls : mL) (st : List Value) (σ : mS) : ev 61 24 (a0 :: a1 :: a2 :: a3 :: some (.int x) :: ls) st σ = ev 61 26 (a0 :: a1 :: a2 :: a3 :: some (.int x) :: ls) (.int x :: st) σ := e_iload0 k61_24 rfl
theorem k61_26 : cod 61 26 = some (.invokevirtual 92, 3, 64, 2, 0, 6) := rfl
theorem e61_26 (t : Nat) (x0 : Int32) (x1 : Int32) (ls : mL) (st : List Value) (σ : mS) (hm : mCat st ≤ 8) : ev 61 26 ls (.int x1 :: .int x0 :: .ref t :: st) σ = isC (σ.1 t) 6 ((evM 64 [.ref t, .int x0, .int x1] σ).bind fun z => ev 61 29 ls (z.1.toList ++ st) z.2) := e_callVK k61_26 (by decide) rfl ⟨hm, Nat.le_of_ble_eq_true rfl⟩
theorem k61_29 : cod 61 29 = some (.iload_n 2, 1, 0, 0, 0, 0) := rfl
theorem e61_29 (a0 a1 : Option Value) (x : Int32) (ls : mL) (st : List Value) (σ : mS) : ev 61 29 (a0 :: a1 :: some (.int x) :: ls) st σ = ev 61 30 (a0 :: a1 :: some (.int x) :: ls) (.int x :: st) σ := e_iload1 k61_29 rfl
theorem k61_30 : cod 61 30 = some (.iconst (-1), 1, 0, 0, 0, 0) := rfl
theorem e61_30 (ls : mL) (st : List Value) (σ : mS) : ev 61 30 ls st σ = ev 61 31 ls (.int (-1) :: st) σ := e_iconst (-1) k61_30 (by decide)
theorem k61_31 : cod 61 31 = some (.ixor, 1, 0, 0, 0, 0) := rfl
theorem e61_31 (x y : Int32) (ls : mL) (st : List Value) (σ : mS) : ev 61 31 ls (.int y :: .int x :: st) σ = ev 61 32 ls (.int (x ^^^ y) :: st) σ := e_ixor k61_31
theorem k61_32 : cod 61 32 = some (.iand, 1, 0, 0, 0, 0) := rfl
theorem e61_32 (x y : Int32) (ls : mL) (st : List Value) (σ : mS) : ev 61 32 ls (.int y :: .int x :: st) σ = ev 61 33 ls (.int (x &&& y) :: st) σ := e_iand k61_32
theorem k61_33 : cod 61 33 = some (.ifCond .ne (10), 3, 43, 0, 0, 0) := rfl
theorem e61_33 (x : Int32) (ls : mL) (st : List Value) (σ : mS) : ev 61 33 ls (.int x :: st) σ = if x = 0 then ev 61 36 ls st σ else ev 61 43 ls st σ := e_if_ne k61_33
theorem k61_36 : cod 61 36 = some (.iload_n 3, 1, 0, 0, 0, 0) := rfl
theorem e61_36 (a0 a1 a2 : Option Value) (x : Int32) (ls : mL) (st : List Value) (σ : mS) : ev 61 36 (a0 :: a1 :: a2 :: some (.int x) :: ls) st σ = ev 61 37 (a0 :: a1 :: a2 :: some (.int x) :: ls) (.int x :: st) σ := e_iload1 k61_36 rfl
theorem k61_37 : cod 61 37 = some (.iconst 1, 1, 0, 0, 0, 0) := rfl
theorem e61_37 (ls : mL) (st : List Value) (σ : mS) : ev 61 37 ls st σ = ev 61 38 ls (.int 1 :: st) σ := e_iconst 1 k61_37 (by decide)
theorem k61_38 : cod 61 38 = some (.iload 4, 2, 0, 0, 0, 0) := rfl
theorem e61_38 (a0 a1 a2 a3 : Option Value) (x : Int32) (ls : mL) (st : List Value) (σ : mS) : ev 61 38 (a0 :: a1 :: a2 :: a3 :: some (.int x) :: ls) st σ = ev 61 40 (a0 :: a1 :: a2 :: a3 :: some (.int x) :: ls) (.int x :: st) σ := e_iload0 k61_38 rfl
theorem k61_40 : cod 61 40 = some (.ishl, 1, 0, 0, 0, 0) := rfl
theorem e61_40 (x y : Int32) (ls : mL) (st : List Value) (σ : mS) : ev 61 40 ls (.int y :: .int x :: st) σ = ev 61 41 ls (.int (x <<< (y &&& 31)) :: st) σ := e_ishl k61_40
theorem k61_41 : cod 61 41 = some (.ior, 1, 0, 0, 0, 0) := rfl
theorem e61_41 (x y : Int32) (ls : mL) (st : List Value) (σ : mS) : ev 61 41 ls (.int y :: .int x :: st) σ = ev 61 42 ls (.int (x ||| y) :: st) σ := e_ior k61_41
theorem k61_42 : cod 61 42 = some (.istore_n 3, 1, 0, 0, 0, 0) := rfl
theorem e61_42i (a0 a1 : Option Value) (y : Int32) (o : Option Value) (x : Int32) (ls : mL) (st : List Value) (σ : mS) : ev 61 42 (a0 :: a1 :: some (.int y) :: o :: ls) (.int x :: st) σ = ev 61 43 (a0 :: a1 :: some (.int y) :: some (.int x) :: ls) st σ := e_istore1 k61_42 (Nat.le_add_left 4 ls.length)
theorem e61_42n (a0 a1 : Option Value) (o : Option Value) (x : Int32) (ls : mL) (st : List Value) (σ : mS) : ev 61 42 (a0 :: a1 :: none :: o :: ls) (.int x :: st) σ = ev 61 43 (a0 :: a1 :: none :: some (.int x) :: ls) st σ := e_istore1 k61_42 (Nat.le_add_left 4 ls.length)
theorem e61_42r (a0 a1 : Option Value) (y : Nat) (o : Option Value) (x : Int32) (ls : mL) (st : List Value) (σ : mS) : ev 61 42 (a0 :: a1 :: some (.ref y) :: o :: ls) (.int x :: st) σ = ev 61 43 (a0 :: a1 :: some (.ref y) :: some (.int x) :: ls) st σ := e_istore1 k61_42 (Nat.le_add_left 4 ls.length)
theorem k61_43 : cod 61 43 = some (.iinc 4 (1), 3, 0, 0, 0, 0) := rfl
theorem e61_43i (a0 a1 a2 : Option Value) (y : Int32) (x : Int32) (ls : mL) (st : List Value) (σ : mS) : ev 61 43 (a0 :: a1 :: a2 :: some (.int y) :: some (.int x) :: ls) st σ = ev 61 46 (a0 :: a1 :: a2 :: some (.int y) :: some (.int (x + 1)) :: ls) st σ := e_iinc 1 k61_43 (by decide) rfl
theorem e61_43n (a0 a1 a2 : Option Value) (x : Int32) (ls : mL) (st : List Value) (σ : mS) : ev 61 43 (a0 :: a1 :: a2 :: none :: some (.int x) :: ls) st σ = ev 61 46 (a0 :: a1 :: a2 :: none :: some (.int (x + 1)) :: ls) st σ := e_iinc 1 k61_43 (by decide) rfl
theorem e61_43r (a0 a1 a2 : Option Value) (y : Nat) (x : Int32) (ls : mL) (st : List Value) (σ : mS) : ev 61 43 (a0 :: a1 :: a2 :: some (.ref y) :: some (.int x) :: ls) st σ = ev 61 46 (a0 :: a1 :: a2 :: some (.ref y) :: some (.int (x + 1)) :: ls) st σ := e_iinc 1 k61_43 (by decide) rfl
theorem k61_46 : cod 61 46 = some (.goto (-41), 3, 5, 0, 0, 0) := rfl
theorem e61_46 (ls : mL) (st : List Value) (σ : mS) : ev 61 46 ls st σ = ev 61 5 ls st σ := e_goto k61_46
theorem k61_49 : cod 61 49 = some (.iload_n 3, 1, 0, 0, 0, 0) := rfl
theorem e61_49 (a0 a1 a2 : Option Value) (x : Int32) (ls : mL) (st : List Value) (σ : mS) : ev 61 49 (a0 :: a1 :: a2 :: some (.int x) :: ls) st σ = ev 61 50 (a0 :: a1 :: a2 :: some (.int x) :: ls) (.int x :: st) σ := e_iload1 k61_49 rfl
theorem k61_50 : cod 61 50 = some (.ireturn, 1, 0, 0, 0, 0) := rfl
theorem e61_50 (x : Int32) (ls : mL) (σ : mS) : ev 61 50 ls [.int x] σ = some (some (.int x), σ) := e_iret k61_50 rfl
theorem m61 (t : Nat) (x0 : Int32) (x1 : Int32) (σ : mS) : evM 61 [.ref t, .int x0, .int x1] σ = ev 61 0 [some (.ref t), some (.int x0), some (.int x1), none, none] [] σ := rfl
theorem k62_0 : cod 62 0 = some (.iload_n 1, 1, 0, 0, 0, 0) := rfl
theorem e62_0 (a0 : Option Value) (x : Int32) (ls : mL) (st : List Value) (σ : mS) : ev 62 0 (a0 :: some (.int x) :: ls) st σ = ev 62 1 (a0 :: some (.int x) :: ls) (.int x :: st) σ := e_iload1 k62_0 rfl
theorem k62_1 : cod 62 1 = some (.iload_n 2, 1, 0, 0, 0, 0) := rfl
theorem e62_1 (a0 a1 : Option Value) (x : Int32) (ls : mL) (st : List Value) (σ : mS) : ev 62 1 (a0 :: a1 :: some (.int x) :: ls) st σ = ev 62 2 (a0 :: a1 :: some (.int x) :: ls) (.int x :: st) σ := e_iload1 k62_1 rfl
theorem k62_2 : cod 62 2 = some (.invokestatic 62, 3, 63, 2, 0, 0) := rfl
theorem e62_2 (x0 : Int32) (x1 : Int32) (ls : mL) (st : List Value) (σ : mS) (hm : mCat st ≤ 8) : ev 62 2 ls (.int x1 :: .int x0 :: st) σ = (evM 63 [.int x0, .int x1] σ).bind fun z => ev 62 5 ls (z.1.toList ++ st) z.2 := e_callS k62_2 (by decide) rfl ⟨hm, Nat.le_of_ble_eq_true rfl⟩
theorem k62_5 : cod 62 5 = some (.istore_n 3, 1, 0, 0, 0, 0) := rfl
theorem e62_5i (a0 a1 : Option Value) (y : Int32) (o : Option Value) (x : Int32) (ls : mL) (st : List Value) (σ : mS) : ev 62 5 (a0 :: a1 :: some (.int y) :: o :: ls) (.int x :: st) σ = ev 62 6 (a0 :: a1 :: some (.int y) :: some (.int x) :: ls) st σ := e_istore1 k62_5 (Nat.le_add_left 4 ls.length)
theorem e62_5n (a0 a1 : Option Value) (o : Option Value) (x : Int32) (ls : mL) (st : List Value) (σ : mS) : ev 62 5 (a0 :: a1 :: none :: o :: ls) (.int x :: st) σ = ev 62 6 (a0 :: a1 :: none :: some (.int x) :: ls) st σ := e_istore1 k62_5 (Nat.le_add_left 4 ls.length)
theorem e62_5r (a0 a1 : Option Value) (y : Nat) (o : Option Value) (x : Int32) (ls : mL) (st : List Value) (σ : mS) : ev 62 5 (a0 :: a1 :: some (.ref y) :: o :: ls) (.int x :: st) σ = ev 62 6 (a0 :: a1 :: some (.ref y) :: some (.int x) :: ls) st σ := e_istore1 k62_5 (Nat.le_add_left 4 ls.length)
theorem k62_6 : cod 62 6 = some (.iload_n 3, 1, 0, 0, 0, 0) := rfl
theorem e62_6 (a0 a1 a2 : Option Value) (x : Int32) (ls : mL) (st : List Value) (σ : mS) : ev 62 6 (a0 :: a1 :: a2 :: some (.int x) :: ls) st σ = ev 62 7 (a0 :: a1 :: a2 :: some (.int x) :: ls) (.int x :: st) σ := e_iload1 k62_6 rfl
theorem k62_7 : cod 62 7 = some (.ifCond .ge (7), 3, 14, 0, 0, 0) := rfl
theorem e62_7 (x : Int32) (ls : mL) (st : List Value) (σ : mS) : ev 62 7 ls (.int x :: st) σ = if 0 ≤ x then ev 62 14 ls st σ else ev 62 10 ls st σ := e_if_ge k62_7
theorem k62_10 : cod 62 10 = some (.iconst 0, 1, 0, 0, 0, 0) := rfl
theorem e62_10 (ls : mL) (st : List Value) (σ : mS) : ev 62 10 ls st σ = ev 62 11 ls (.int 0 :: st) σ := e_iconst 0 k62_10 (by decide)
theorem k62_11 : cod 62 11 = some (.goto (9), 3, 20, 0, 0, 0) := rfl
theorem e62_11 (ls : mL) (st : List Value) (σ : mS) : ev 62 11 ls st σ = ev 62 20 ls st σ := e_goto k62_11
theorem k62_14 : cod 62 14 = some (.aload_n 0, 1, 0, 0, 0, 0) := rfl
theorem e62_14 (x : Nat) (ls : mL) (st : List Value) (σ : mS) : ev 62 14 (some (.ref x) :: ls) st σ = ev 62 15 (some (.ref x) :: ls) (.ref x :: st) σ := e_aload1 k62_14 rfl
theorem k62_15 : cod 62 15 = some (.getfield 9, 3, 6, 0, 0, 3) := rfl
theorem e62_15 (t : Nat) (ls : mL) (st : List Value) (σ : mS) : ev 62 15 ls (.ref t :: st) σ = gfK (σ.1 t) 6 0 (fun v => ev 62 18 ls (v :: st) σ) := e_getf k62_15
theorem k62_18 : cod 62 18 = some (.iload_n 3, 1, 0, 0, 0, 0) := rfl
theorem e62_18 (a0 a1 a2 : Option Value) (x : Int32) (ls : mL) (st : List Value) (σ : mS) : ev 62 18 (a0 :: a1 :: a2 :: some (.int x) :: ls) st σ = ev 62 19 (a0 :: a1 :: a2 :: some (.int x) :: ls) (.int x :: st) σ := e_iload1 k62_18 rfl
theorem k62_19 : cod 62 19 = some (.iaload, 1, 0, 0, 0, 0) := rfl
theorem e62_19 (j : Int32) (t : Nat) (ls : mL) (st : List Value) (σ : mS) : ev 62 19 ls (.int j :: .ref t :: st) σ = alK (σ.1 t) 0 j (fun v => ev 62 20 ls (.int v :: st) σ) := e_iald k62_19
theorem k62_20 : cod 62 20 = some (.ireturn, 1, 0, 0, 0, 0) := rfl
theorem e62_20 (x : Int32) (ls : mL) (σ : mS) : ev 62 20 ls [.int x] σ = some (some (.int x), σ) := e_iret k62_20 rfl
theorem m62 (t : Nat) (x0 : Int32) (x1 : Int32) (σ : mS) : evM 62 [.ref t, .int x0, .int x1] σ = ev 62 0 [some (.ref t), some (.int x0), some (.int x1), none] [] σ := rfl
theorem k63_0 : cod 63 0 = some (.iload_n 0, 1, 0, 0, 0, 0) := rfl
theorem e63_0 (x : Int32) (ls : mL) (st : List Value) (σ : mS) : ev 63 0 (some (.int x) :: ls) st σ = ev 63 1 (some (.int x) :: ls) (.int x :: st) σ := e_iload1 k63_0 rfl
theorem k63_1 : cod 63 1 = some (.ifCond .lt (23), 3, 24, 0, 0, 0) := rfl
theorem e63_1 (x : Int32) (ls : mL) (st : List Value) (σ : mS) : ev 63 1 ls (.int x :: st) σ = if x < 0 then ev 63 24 ls st σ else ev 63 4 ls st σ := e_if_lt k63_1
theorem k63_4 : cod 63 4 = some (.iload_n 0, 1, 0, 0, 0, 0) := rfl
theorem e63_4 (x : Int32) (ls : mL) (st : List Value) (σ : mS) : ev 63 4 (some (.int x) :: ls) st σ = ev 63 5 (some (.int x) :: ls) (.int x :: st) σ := e_iload1 k63_4 rfl
theorem k63_5 : cod 63 5 = some (.bipush (16), 2, 0, 0, 0, 0) := rfl
theorem e63_5 (ls : mL) (st : List Value) (σ : mS) : ev 63 5 ls st σ = ev 63 7 ls (.int 16 :: st) σ := e_bipush 16 k63_5 (by decide)
theorem k63_7 : cod 63 7 = some (.if_icmp .ge (17), 3, 24, 0, 0, 0) := rfl
theorem e63_7 (x y : Int32) (ls : mL) (st : List Value) (σ : mS) : ev 63 7 ls (.int y :: .int x :: st) σ = if y ≤ x then ev 63 24 ls st σ else ev 63 10 ls st σ := e_ic_ge k63_7
theorem k63_10 : cod 63 10 = some (.iload_n 1, 1, 0, 0, 0, 0) := rfl
theorem e63_10 (a0 : Option Value) (x : Int32) (ls : mL) (st : List Value) (σ : mS) : ev 63 10 (a0 :: some (.int x) :: ls) st σ = ev 63 11 (a0 :: some (.int x) :: ls) (.int x :: st) σ := e_iload1 k63_10 rfl
theorem k63_11 : cod 63 11 = some (.ifCond .lt (13), 3, 24, 0, 0, 0) := rfl
theorem e63_11 (x : Int32) (ls : mL) (st : List Value) (σ : mS) : ev 63 11 ls (.int x :: st) σ = if x < 0 then ev 63 24 ls st σ else ev 63 14 ls st σ := e_if_lt k63_11
theorem k63_14 : cod 63 14 = some (.iload_n 1, 1, 0, 0, 0, 0) := rfl
theorem e63_14 (a0 : Option Value) (x : Int32) (ls : mL) (st : List Value) (σ : mS) : ev 63 14 (a0 :: some (.int x) :: ls) st σ = ev 63 15 (a0 :: some (.int x) :: ls) (.int x :: st) σ := e_iload1 k63_14 rfl
theorem k63_15 : cod 63 15 = some (.bipush (8), 2, 0, 0, 0, 0) := rfl
theorem e63_15 (ls : mL) (st : List Value) (σ : mS) : ev 63 15 ls st σ = ev 63 17 ls (.int 8 :: st) σ := e_bipush 8 k63_15 (by decide)
theorem k63_17 : cod 63 17 = some (.if_icmp .ge (7), 3, 24, 0, 0, 0) := rfl
theorem e63_17 (x y : Int32) (ls : mL) (st : List Value) (σ : mS) : ev 63 17 ls (.int y :: .int x :: st) σ = if y ≤ x then ev 63 24 ls st σ else ev 63 20 ls st σ := e_ic_ge k63_17
theorem k63_20 : cod 63 20 = some (.iconst 1, 1, 0, 0, 0, 0) := rfl
theorem e63_20 (ls : mL) (st : List Value) (σ : mS) : ev 63 20 ls st σ = ev 63 21 ls (.int 1 :: st) σ := e_iconst 1 k63_20 (by decide)
theorem k63_21 : cod 63 21 = some (.goto (4), 3, 25, 0, 0, 0) := rfl
theorem e63_21 (ls : mL) (st : List Value) (σ : mS) : ev 63 21 ls st σ = ev 63 25 ls st σ := e_goto k63_21
theorem k63_24 : cod 63 24 = some (.iconst 0, 1, 0, 0, 0, 0) := rfl
theorem e63_24 (ls : mL) (st : List Value) (σ : mS) : ev 63 24 ls st σ = ev 63 25 ls (.int 0 :: st) σ := e_iconst 0 k63_24 (by decide)
theorem k63_25 : cod 63 25 = some (.istore_n 2, 1, 0, 0, 0, 0) := rfl
theorem e63_25i (a0 : Option Value) (y : Int32) (o : Option Value) (x : Int32) (ls : mL) (st : List Value) (σ : mS) : ev 63 25 (a0 :: some (.int y) :: o :: ls) (.int x :: st) σ = ev 63 26 (a0 :: some (.int y) :: some (.int x) :: ls) st σ := e_istore1 k63_25 (Nat.le_add_left 3 ls.length)
theorem e63_25n (a0 : Option Value) (o : Option Value) (x : Int32) (ls : mL) (st : List Value) (σ : mS) : ev 63 25 (a0 :: none :: o :: ls) (.int x :: st) σ = ev 63 26 (a0 :: none :: some (.int x) :: ls) st σ := e_istore1 k63_25 (Nat.le_add_left 3 ls.length)
theorem e63_25r (a0 : Option Value) (y : Nat) (o : Option Value) (x : Int32) (ls : mL) (st : List Value) (σ : mS) : ev 63 25 (a0 :: some (.ref y) :: o :: ls) (.int x :: st) σ = ev 63 26 (a0 :: some (.ref y) :: some (.int x) :: ls) st σ := e_istore1 k63_25 (Nat.le_add_left 3 ls.length)
theorem k63_26 : cod 63 26 = some (.iload_n 2, 1, 0, 0, 0, 0) := rfl
theorem e63_26 (a0 a1 : Option Value) (x : Int32) (ls : mL) (st : List Value) (σ : mS) : ev 63 26 (a0 :: a1 :: some (.int x) :: ls) st σ = ev 63 27 (a0 :: a1 :: some (.int x) :: ls) (.int x :: st) σ := e_iload1 k63_26 rfl
theorem k63_27 : cod 63 27 = some (.ifCond .eq (12), 3, 39, 0, 0, 0) := rfl
theorem e63_27 (x : Int32) (ls : mL) (st : List Value) (σ : mS) : ev 63 27 ls (.int x :: st) σ = if x = 0 then ev 63 39 ls st σ else ev 63 30 ls st σ := e_if_eq k63_27
theorem k63_30 : cod 63 30 = some (.iload_n 0, 1, 0, 0, 0, 0) := rfl
theorem e63_30 (x : Int32) (ls : mL) (st : List Value) (σ : mS) : ev 63 30 (some (.int x) :: ls) st σ = ev 63 31 (some (.int x) :: ls) (.int x :: st) σ := e_iload1 k63_30 rfl
theorem k63_31 : cod 63 31 = some (.bipush (8), 2, 0, 0, 0, 0) := rfl
theorem e63_31 (ls : mL) (st : List Value) (σ : mS) : ev 63 31 ls st σ = ev 63 33 ls (.int 8 :: st) σ := e_bipush 8 k63_31 (by decide)
theorem k63_33 : cod 63 33 = some (.imul, 1, 0, 0, 0, 0) := rfl
theorem e63_33 (x y : Int32) (ls : mL) (st : List Value) (σ : mS) : ev 63 33 ls (.int y :: .int x :: st) σ = ev 63 34 ls (.int (x * y) :: st) σ := e_imul k63_33
theorem k63_34 : cod 63 34 = some (.iload_n 1, 1, 0, 0, 0, 0) := rfl
theorem e63_34 (a0 : Option Value) (x : Int32) (ls : mL) (st : List Value) (σ : mS) : ev 63 34 (a0 :: some (.int x) :: ls) st σ = ev 63 35 (a0 :: some (.int x) :: ls) (.int x :: st) σ := e_iload1 k63_34 rfl
theorem k63_35 : cod 63 35 = some (.iadd, 1, 0, 0, 0, 0) := rfl
theorem e63_35 (x y : Int32) (ls : mL) (st : List Value) (σ : mS) : ev 63 35 ls (.int y :: .int x :: st) σ = ev 63 36 ls (.int (x + y) :: st) σ := e_iadd k63_35
theorem k63_36 : cod 63 36 = some (.goto (4), 3, 40, 0, 0, 0) := rfl
theorem e63_36 (ls : mL) (st : List Value) (σ : mS) : ev 63 36 ls st σ = ev 63 40 ls st σ := e_goto k63_36
theorem k63_39 : cod 63 39 = some (.iconst (-1), 1, 0, 0, 0, 0) := rfl
theorem e63_39 (ls : mL) (st : List Value) (σ : mS) : ev 63 39 ls st σ = ev 63 40 ls (.int (-1) :: st) σ := e_iconst (-1) k63_39 (by decide)
theorem k63_40 : cod 63 40 = some (.ireturn, 1, 0, 0, 0, 0) := rfl
theorem e63_40 (x : Int32) (ls : mL) (σ : mS) : ev 63 40 ls [.int x] σ = some (some (.int x), σ) := e_iret k63_40 rfl
theorem m63 (x0 : Int32) (x1 : Int32) (σ : mS) : evM 63 [.int x0, .int x1] σ = ev 63 0 [some (.int x0), some (.int x1), none] [] σ := rfl
theorem k64_0 : cod 64 0 = some (.iload_n 1, 1, 0, 0, 0, 0) := rfl
theorem e64_0 (a0 : Option Value) (x : Int32) (ls : mL) (st : List Value) (σ : mS) : ev 64 0 (a0 :: some (.int x) :: ls) st σ = ev 64 1 (a0 :: some (.int x) :: ls) (.int x :: st) σ := e_iload1 k64_0 rfl
theorem k64_1 : cod 64 1 = some (.iload_n 2, 1, 0, 0, 0, 0) := rfl
theorem e64_1 (a0 a1 : Option Value) (x : Int32) (ls : mL) (st : List Value) (σ : mS) : ev 64 1 (a0 :: a1 :: some (.int x) :: ls) st σ = ev 64 2 (a0 :: a1 :: some (.int x) :: ls) (.int x :: st) σ := e_iload1 k64_1 rfl
theorem k64_2 : cod 64 2 = some (.invokestatic 62, 3, 63, 2, 0, 0) := rfl
theorem e64_2 (x0 : Int32) (x1 : Int32) (ls : mL) (st : List Value) (σ : mS) (hm : mCat st ≤ 8) : ev 64 2 ls (.int x1 :: .int x0 :: st) σ = (evM 63 [.int x0, .int x1] σ).bind fun z => ev 64 5 ls (z.1.toList ++ st) z.2 := e_callS k64_2 (by decide) rfl ⟨hm, Nat.le_of_ble_eq_true rfl⟩
theorem k64_5 : cod 64 5 = some (.istore_n 3, 1, 0, 0, 0, 0) := rfl
theorem e64_5i (a0 a1 : Option Value) (y : Int32) (o : Option Value) (x : Int32) (ls : mL) (st : List Value) (σ : mS) : ev 64 5 (a0 :: a1 :: some (.int y) :: o :: ls) (.int x :: st) σ = ev 64 6 (a0 :: a1 :: some (.int y) :: some (.int x) :: ls) st σ := e_istore1 k64_5 (Nat.le_add_left 4 ls.length)
theorem e64_5n (a0 a1 : Option Value) (o : Option Value) (x : Int32) (ls : mL) (st : List Value) (σ : mS) : ev 64 5 (a0 :: a1 :: none :: o :: ls) (.int x :: st) σ = ev 64 6 (a0 :: a1 :: none :: some (.int x) :: ls) st σ := e_istore1 k64_5 (Nat.le_add_left 4 ls.length)
theorem e64_5r (a0 a1 : Option Value) (y : Nat) (o : Option Value) (x : Int32) (ls : mL) (st : List Value) (σ : mS) : ev 64 5 (a0 :: a1 :: some (.ref y) :: o :: ls) (.int x :: st) σ = ev 64 6 (a0 :: a1 :: some (.ref y) :: some (.int x) :: ls) st σ := e_istore1 k64_5 (Nat.le_add_left 4 ls.length)
theorem k64_6 : cod 64 6 = some (.iload_n 3, 1, 0, 0, 0, 0) := rfl
theorem e64_6 (a0 a1 a2 : Option Value) (x : Int32) (ls : mL) (st : List Value) (σ : mS) : ev 64 6 (a0 :: a1 :: a2 :: some (.int x) :: ls) st σ = ev 64 7 (a0 :: a1 :: a2 :: some (.int x) :: ls) (.int x :: st) σ := e_iload1 k64_6 rfl
theorem k64_7 : cod 64 7 = some (.ifCond .ge (7), 3, 14, 0, 0, 0) := rfl
theorem e64_7 (x : Int32) (ls : mL) (st : List Value) (σ : mS) : ev 64 7 ls (.int x :: st) σ = if 0 ≤ x then ev 64 14 ls st σ else ev 64 10 ls st σ := e_if_ge k64_7
theorem k64_10 : cod 64 10 = some (.iconst 0, 1, 0, 0, 0, 0) := rfl
theorem e64_10 (ls : mL) (st : List Value) (σ : mS) : ev 64 10 ls st σ = ev 64 11 ls (.int 0 :: st) σ := e_iconst 0 k64_10 (by decide)
theorem k64_11 : cod 64 11 = some (.goto (9), 3, 20, 0, 0, 0) := rfl
theorem e64_11 (ls : mL) (st : List Value) (σ : mS) : ev 64 11 ls st σ = ev 64 20 ls st σ := e_goto k64_11
theorem k64_14 : cod 64 14 = some (.aload_n 0, 1, 0, 0, 0, 0) := rfl
theorem e64_14 (x : Nat) (ls : mL) (st : List Value) (σ : mS) : ev 64 14 (some (.ref x) :: ls) st σ = ev 64 15 (some (.ref x) :: ls) (.ref x :: st) σ := e_aload1 k64_14 rfl
theorem k64_15 : cod 64 15 = some (.getfield 15, 3, 6, 1, 0, 3) := rfl
theorem e64_15 (t : Nat) (ls : mL) (st : List Value) (σ : mS) : ev 64 15 ls (.ref t :: st) σ = gfK (σ.1 t) 6 1 (fun v => ev 64 18 ls (v :: st) σ) := e_getf k64_15
theorem k64_18 : cod 64 18 = some (.iload_n 3, 1, 0, 0, 0, 0) := rfl
theorem e64_18 (a0 a1 a2 : Option Value) (x : Int32) (ls : mL) (st : List Value) (σ : mS) : ev 64 18 (a0 :: a1 :: a2 :: some (.int x) :: ls) st σ = ev 64 19 (a0 :: a1 :: a2 :: some (.int x) :: ls) (.int x :: st) σ := e_iload1 k64_18 rfl
theorem k64_19 : cod 64 19 = some (.iaload, 1, 0, 0, 0, 0) := rfl
theorem e64_19 (j : Int32) (t : Nat) (ls : mL) (st : List Value) (σ : mS) : ev 64 19 ls (.int j :: .ref t :: st) σ = alK (σ.1 t) 0 j (fun v => ev 64 20 ls (.int v :: st) σ) := e_iald k64_19
theorem k64_20 : cod 64 20 = some (.ireturn, 1, 0, 0, 0, 0) := rfl
theorem e64_20 (x : Int32) (ls : mL) (σ : mS) : ev 64 20 ls [.int x] σ = some (some (.int x), σ) := e_iret k64_20 rfl
theorem m64 (t : Nat) (x0 : Int32) (x1 : Int32) (σ : mS) : evM 64 [.ref t, .int x0, .int x1] σ = ev 64 0 [some (.ref t), some (.int x0), some (.int x1), none] [] σ := rfl
theorem k65_0 : cod 65 0 = some (.iconst 0, 1, 0, 0, 0, 0) := rfl
theorem e65_0 (ls : mL) (st : List Value) (σ : mS) : ev 65 0 ls st σ = ev 65 1 ls (.int 0 :: st) σ := e_iconst 0 k65_0 (by decide)
theorem k65_1 : cod 65 1 = some (.istore_n 2, 1, 0, 0, 0, 0) := rfl
theorem e65_1i (a0 : Option Value) (y : Int32) (o : Option Value) (x : Int32) (ls : mL) (st : List Value) (σ : mS) : ev 65 1 (a0 :: some (.int y) :: o :: ls) (.int x :: st) σ = ev 65 2 (a0 :: some (.int y) :: some (.int x) :: ls) st σ := e_istore1 k65_1 (Nat.le_add_left 3 ls.length)
theorem e65_1n (a0 : Option Value) (o : Option Value) (x : Int32) (ls : mL) (st : List Value) (σ : mS) : ev 65 1 (a0 :: none :: o :: ls) (.int x :: st) σ = ev 65 2 (a0 :: none :: some (.int x) :: ls) st σ := e_istore1 k65_1 (Nat.le_add_left 3 ls.length)
theorem e65_1r (a0 : Option Value) (y : Nat) (o : Option Value) (x : Int32) (ls : mL) (st : List Value) (σ : mS) : ev 65 1 (a0 :: some (.ref y) :: o :: ls) (.int x :: st) σ = ev 65 2 (a0 :: some (.ref y) :: some (.int x) :: ls) st σ := e_istore1 k65_1 (Nat.le_add_left 3 ls.length)
theorem k65_2 : cod 65 2 = some (.iconst 0, 1, 0, 0, 0, 0) := rfl
theorem e65_2 (ls : mL) (st : List Value) (σ : mS) : ev 65 2 ls st σ = ev 65 3 ls (.int 0 :: st) σ := e_iconst 0 k65_2 (by decide)
theorem k65_3 : cod 65 3 = some (.istore_n 3, 1, 0, 0, 0, 0) := rfl
theorem e65_3i (a0 a1 : Option Value) (y : Int32) (o : Option Value) (x : Int32) (ls : mL) (st : List Value) (σ : mS) : ev 65 3 (a0 :: a1 :: some (.int y) :: o :: ls) (.int x :: st) σ = ev 65 4 (a0 :: a1 :: some (.int y) :: some (.int x) :: ls) st σ := e_istore1 k65_3 (Nat.le_add_left 4 ls.length)
theorem e65_3n (a0 a1 : Option Value) (o : Option Value) (x : Int32) (ls : mL) (st : List Value) (σ : mS) : ev 65 3 (a0 :: a1 :: none :: o :: ls) (.int x :: st) σ = ev 65 4 (a0 :: a1 :: none :: some (.int x) :: ls) st σ := e_istore1 k65_3 (Nat.le_add_left 4 ls.length)
theorem e65_3r (a0 a1 : Option Value) (y : Nat) (o : Option Value) (x : Int32) (ls : mL) (st : List Value) (σ : mS) : ev 65 3 (a0 :: a1 :: some (.ref y) :: o :: ls) (.int x :: st) σ = ev 65 4 (a0 :: a1 :: some (.ref y) :: some (.int x) :: ls) st σ := e_istore1 k65_3 (Nat.le_add_left 4 ls.length)
theorem k65_4 : cod 65 4 = some (.iload_n 3, 1, 0, 0, 0, 0) := rfl
theorem e65_4 (a0 a1 a2 : Option Value) (x : Int32) (ls : mL) (st : List Value) (σ : mS) : ev 65 4 (a0 :: a1 :: a2 :: some (.int x) :: ls) st σ = ev 65 5 (a0 :: a1 :: a2 :: some (.int x) :: ls) (.int x :: st) σ := e_iload1 k65_4 rfl
theorem k65_5 : cod 65 5 = some (.bipush (16), 2, 0, 0, 0, 0) := rfl
theorem e65_5 (ls : mL) (st : List Value) (σ : mS) : ev 65 5 ls st σ = ev 65 7 ls (.int 16 :: st) σ := e_bipush 16 k65_5 (by decide)
theorem k65_7 : cod 65 7 = some (.if_icmp .ge (43), 3, 50, 0, 0, 0) := rfl
theorem e65_7 (x y : Int32) (ls : mL) (st : List Value) (σ : mS) : ev 65 7 ls (.int y :: .int x :: st) σ = if y ≤ x then ev 65 50 ls st σ else ev 65 10 ls st σ := e_ic_ge k65_7
theorem k65_10 : cod 65 10 = some (.iload_n 1, 1, 0, 0, 0, 0) := rfl
theorem e65_10 (a0 : Option Value) (x : Int32) (ls : mL) (st : List Value) (σ : mS) : ev 65 10 (a0 :: some (.int x) :: ls) st σ = ev 65 11 (a0 :: some (.int x) :: ls) (.int x :: st) σ := e_iload1 k65_10 rfl
theorem k65_11 : cod 65 11 = some (.iload_n 3, 1, 0, 0, 0, 0) := rfl
theorem e65_11 (a0 a1 a2 : Option Value) (x : Int32) (ls : mL) (st : List Value) (σ : mS) : ev 65 11 (a0 :: a1 :: a2 :: some (.int x) :: ls) st σ = ev 65 12 (a0 :: a1 :: a2 :: some (.int x) :: ls) (.int x :: st) σ := e_iload1 k65_11 rfl
theorem k65_12 : cod 65 12 = some (.invokestatic 74, 3, 84, 2, 1, 0) := rfl
theorem e65_12 (x0 : Int32) (x1 : Int32) (ls : mL) (st : List Value) (σ : mS) (hm : mCat st ≤ 8) : ev 65 12 ls (.int x1 :: .int x0 :: st) σ = (evM 84 [.int x0, .int x1] σ).bind fun z => ev 65 15 ls (z.1.toList ++ st) z.2 := e_callS k65_12 (by decide) rfl ⟨hm, Nat.le_of_ble_eq_true rfl⟩
theorem k65_15 : cod 65 15 = some (.ifCond .eq (29), 3, 44, 0, 0, 0) := rfl
theorem e65_15 (x : Int32) (ls : mL) (st : List Value) (σ : mS) : ev 65 15 ls (.int x :: st) σ = if x = 0 then ev 65 44 ls st σ else ev 65 18 ls st σ := e_if_eq k65_15
theorem k65_18 : cod 65 18 = some (.aload_n 0, 1, 0, 0, 0, 0) := rfl
theorem e65_18 (x : Nat) (ls : mL) (st : List Value) (σ : mS) : ev 65 18 (some (.ref x) :: ls) st σ = ev 65 19 (some (.ref x) :: ls) (.ref x :: st) σ := e_aload1 k65_18 rfl
theorem k65_19 : cod 65 19 = some (.getfield 59, 3, 6, 9, 0, 0) := rfl
theorem e65_19 (t : Nat) (ls : mL) (st : List Value) (σ : mS) : ev 65 19 ls (.ref t :: st) σ = gfK (σ.1 t) 6 9 (fun v => ev 65 22 ls (v :: st) σ) := e_getf k65_19
theorem k65_22 : cod 65 22 = some (.iload_n 3, 1, 0, 0, 0, 0) := rfl
theorem e65_22 (a0 a1 a2 : Option Value) (x : Int32) (ls : mL) (st : List Value) (σ : mS) : ev 65 22 (a0 :: a1 :: a2 :: some (.int x) :: ls) st σ = ev 65 23 (a0 :: a1 :: a2 :: some (.int x) :: ls) (.int x :: st) σ := e_iload1 k65_22 rfl
theorem k65_23 : cod 65 23 = some (.invokestatic 74, 3, 84, 2, 1, 0) := rfl
theorem e65_23 (x0 : Int32) (x1 : Int32) (ls : mL) (st : List Value) (σ : mS) (hm : mCat st ≤ 8) : ev 65 23 ls (.int x1 :: .int x0 :: st) σ = (evM 84 [.int x0, .int x1] σ).bind fun z => ev 65 26 ls (z.1.toList ++ st) z.2 := e_callS k65_23 (by decide) rfl ⟨hm, Nat.le_of_ble_eq_true rfl⟩
theorem k65_26 : cod 65 26 = some (.ifCond .ne (12), 3, 38, 0, 0, 0) := rfl
theorem e65_26 (x : Int32) (ls : mL) (st : List Value) (σ : mS) : ev 65 26 ls (.int x :: st) σ = if x = 0 then ev 65 29 ls st σ else ev 65 38 ls st σ := e_if_ne k65_26
theorem k65_29 : cod 65 29 = some (.aload_n 0, 1, 0, 0, 0, 0) := rfl
theorem e65_29 (x : Nat) (ls : mL) (st : List Value) (σ : mS) : ev 65 29 (some (.ref x) :: ls) st σ = ev 65 30 (some (.ref x) :: ls) (.ref x :: st) σ := e_aload1 k65_29 rfl
theorem k65_30 : cod 65 30 = some (.iload_n 3, 1, 0, 0, 0, 0) := rfl
theorem e65_30 (a0 a1 a2 : Option Value) (x : Int32) (ls : mL) (st : List Value) (σ : mS) : ev 65 30 (a0 :: a1 :: a2 :: some (.int x) :: ls) st σ = ev 65 31 (a0 :: a1 :: a2 :: some (.int x) :: ls) (.int x :: st) σ := e_iload1 k65_30 rfl
theorem k65_31 : cod 65 31 = some (.iload_n 1, 1, 0, 0, 0, 0) := rfl
theorem e65_31 (a0 : Option Value) (x : Int32) (ls : mL) (st : List Value) (σ : mS) : ev 65 31 (a0 :: some (.int x) :: ls) st σ = ev 65 32 (a0 :: some (.int x) :: ls) (.int x :: st) σ := e_iload1 k65_31 rfl
theorem k65_32 : cod 65 32 = some (.invokevirtual 113, 3, 61, 2, 0, 6) := rfl
theorem e65_32 (t : Nat) (x0 : Int32) (x1 : Int32) (ls : mL) (st : List Value) (σ : mS) (hm : mCat st ≤ 8) : ev 65 32 ls (.int x1 :: .int x0 :: .ref t :: st) σ = isC (σ.1 t) 6 ((evM 61 [.ref t, .int x0, .int x1] σ).bind fun z => ev 65 35 ls (z.1.toList ++ st) z.2) := e_callVK k65_32 (by decide) rfl ⟨hm, Nat.le_of_ble_eq_true rfl⟩
theorem k65_35 : cod 65 35 = some (.ifCond .eq (9), 3, 44, 0, 0, 0) := rfl
theorem e65_35 (x : Int32) (ls : mL) (st : List Value) (σ : mS) : ev 65 35 ls (.int x :: st) σ = if x = 0 then ev 65 44 ls st σ else ev 65 38 ls st σ := e_if_eq k65_35
theorem k65_38 : cod 65 38 = some (.iload_n 2, 1, 0, 0, 0, 0) := rfl
theorem e65_38 (a0 a1 : Option Value) (x : Int32) (ls : mL) (st : List Value) (σ : mS) : ev 65 38 (a0 :: a1 :: some (.int x) :: ls) st σ = ev 65 39 (a0 :: a1 :: some (.int x) :: ls) (.int x :: st) σ := e_iload1 k65_38 rfl
theorem k65_39 : cod 65 39 = some (.iconst 1, 1, 0, 0, 0, 0) := rfl
theorem e65_39 (ls : mL) (st : List Value) (σ : mS) : ev 65 39 ls st σ = ev 65 40 ls (.int 1 :: st) σ := e_iconst 1 k65_39 (by decide)
theorem k65_40 : cod 65 40 = some (.iload_n 3, 1, 0, 0, 0, 0) := rfl
theorem e65_40 (a0 a1 a2 : Option Value) (x : Int32) (ls : mL) (st : List Value) (σ : mS) : ev 65 40 (a0 :: a1 :: a2 :: some (.int x) :: ls) st σ = ev 65 41 (a0 :: a1 :: a2 :: some (.int x) :: ls) (.int x :: st) σ := e_iload1 k65_40 rfl
theorem k65_41 : cod 65 41 = some (.ishl, 1, 0, 0, 0, 0) := rfl
theorem e65_41 (x y : Int32) (ls : mL) (st : List Value) (σ : mS) : ev 65 41 ls (.int y :: .int x :: st) σ = ev 65 42 ls (.int (x <<< (y &&& 31)) :: st) σ := e_ishl k65_41
theorem k65_42 : cod 65 42 = some (.ior, 1, 0, 0, 0, 0) := rfl
theorem e65_42 (x y : Int32) (ls : mL) (st : List Value) (σ : mS) : ev 65 42 ls (.int y :: .int x :: st) σ = ev 65 43 ls (.int (x ||| y) :: st) σ := e_ior k65_42
theorem k65_43 : cod 65 43 = some (.istore_n 2, 1, 0, 0, 0, 0) := rfl
theorem e65_43i (a0 : Option Value) (y : Int32) (o : Option Value) (x : Int32) (ls : mL) (st : List Value) (σ : mS) : ev 65 43 (a0 :: some (.int y) :: o :: ls) (.int x :: st) σ = ev 65 44 (a0 :: some (.int y) :: some (.int x) :: ls) st σ := e_istore1 k65_43 (Nat.le_add_left 3 ls.length)
theorem e65_43n (a0 : Option Value) (o : Option Value) (x : Int32) (ls : mL) (st : List Value) (σ : mS) : ev 65 43 (a0 :: none :: o :: ls) (.int x :: st) σ = ev 65 44 (a0 :: none :: some (.int x) :: ls) st σ := e_istore1 k65_43 (Nat.le_add_left 3 ls.length)
theorem e65_43r (a0 : Option Value) (y : Nat) (o : Option Value) (x : Int32) (ls : mL) (st : List Value) (σ : mS) : ev 65 43 (a0 :: some (.ref y) :: o :: ls) (.int x :: st) σ = ev 65 44 (a0 :: some (.ref y) :: some (.int x) :: ls) st σ := e_istore1 k65_43 (Nat.le_add_left 3 ls.length)
theorem k65_44 : cod 65 44 = some (.iinc 3 (1), 3, 0, 0, 0, 0) := rfl
theorem e65_44i (a0 a1 : Option Value) (y : Int32) (x : Int32) (ls : mL) (st : List Value) (σ : mS) : ev 65 44 (a0 :: a1 :: some (.int y) :: some (.int x) :: ls) st σ = ev 65 47 (a0 :: a1 :: some (.int y) :: some (.int (x + 1)) :: ls) st σ := e_iinc 1 k65_44 (by decide) rfl
theorem e65_44n (a0 a1 : Option Value) (x : Int32) (ls : mL) (st : List Value) (σ : mS) : ev 65 44 (a0 :: a1 :: none :: some (.int x) :: ls) st σ = ev 65 47 (a0 :: a1 :: none :: some (.int (x + 1)) :: ls) st σ := e_iinc 1 k65_44 (by decide) rfl
theorem e65_44r (a0 a1 : Option Value) (y : Nat) (x : Int32) (ls : mL) (st : List Value) (σ : mS) : ev 65 44 (a0 :: a1 :: some (.ref y) :: some (.int x) :: ls) st σ = ev 65 47 (a0 :: a1 :: some (.ref y) :: some (.int (x + 1)) :: ls) st σ := e_iinc 1 k65_44 (by decide) rfl
theorem k65_47 : cod 65 47 = some (.goto (-43), 3, 4, 0, 0, 0) := rfl
theorem e65_47 (ls : mL) (st : List Value) (σ : mS) : ev 65 47 ls st σ = ev 65 4 ls st σ := e_goto k65_47
theorem k65_50 : cod 65 50 = some (.iload_n 2, 1, 0, 0, 0, 0) := rfl
theorem e65_50 (a0 a1 : Option Value) (x : Int32) (ls : mL) (st : List Value) (σ : mS) : ev 65 50 (a0 :: a1 :: some (.int x) :: ls) st σ = ev 65 51 (a0 :: a1 :: some (.int x) :: ls) (.int x :: st) σ := e_iload1 k65_50 rfl
theorem k65_51 : cod 65 51 = some (.ireturn, 1, 0, 0, 0, 0) := rfl
theorem e65_51 (x : Int32) (ls : mL) (σ : mS) : ev 65 51 ls [.int x] σ = some (some (.int x), σ) := e_iret k65_51 rfl
theorem m65 (t : Nat) (x0 : Int32) (σ : mS) : evM 65 [.ref t, .int x0] σ = ev 65 0 [some (.ref t), some (.int x0), none, none] [] σ := rfl
theorem k66_0 : cod 66 0 = some (.iconst 0, 1, 0, 0, 0, 0) := rfl
theorem e66_0 (ls : mL) (st : List Value) (σ : mS) : ev 66 0 ls st σ = ev 66 1 ls (.int 0 :: st) σ := e_iconst 0 k66_0 (by decide)
theorem k66_1 : cod 66 1 = some (.istore_n 1, 1, 0, 0, 0, 0) := rfl
theorem e66_1i (y : Int32) (o : Option Value) (x : Int32) (ls : mL) (st : List Value) (σ : mS) : ev 66 1 (some (.int y) :: o :: ls) (.int x :: st) σ = ev 66 2 (some (.int y) :: some (.int x) :: ls) st σ := e_istore1 k66_1 (Nat.le_add_left 2 ls.length)
theorem e66_1n (o : Option Value) (x : Int32) (ls : mL) (st : List Value) (σ : mS) : ev 66 1 (none :: o :: ls) (.int x :: st) σ = ev 66 2 (none :: some (.int x) :: ls) st σ := e_istore1 k66_1 (Nat.le_add_left 2 ls.length)
theorem e66_1r (y : Nat) (o : Option Value) (x : Int32) (ls : mL) (st : List Value) (σ : mS) : ev 66 1 (some (.ref y) :: o :: ls) (.int x :: st) σ = ev 66 2 (some (.ref y) :: some (.int x) :: ls) st σ := e_istore1 k66_1 (Nat.le_add_left 2 ls.length)
theorem k66_2 : cod 66 2 = some (.iload_n 1, 1, 0, 0, 0, 0) := rfl
theorem e66_2 (a0 : Option Value) (x : Int32) (ls : mL) (st : List Value) (σ : mS) : ev 66 2 (a0 :: some (.int x) :: ls) st σ = ev 66 3 (a0 :: some (.int x) :: ls) (.int x :: st) σ := e_iload1 k66_2 rfl
theorem k66_3 : cod 66 3 = some (.bipush (16), 2, 0, 0, 0, 0) := rfl
theorem e66_3 (ls : mL) (st : List Value) (σ : mS) : ev 66 3 ls st σ = ev 66 5 ls (.int 16 :: st) σ := e_bipush 16 k66_3 (by decide)
theorem k66_5 : cod 66 5 = some (.if_icmp .ge (32), 3, 37, 0, 0, 0) := rfl
theorem e66_5 (x y : Int32) (ls : mL) (st : List Value) (σ : mS) : ev 66 5 ls (.int y :: .int x :: st) σ = if y ≤ x then ev 66 37 ls st σ else ev 66 8 ls st σ := e_ic_ge k66_5
theorem k66_8 : cod 66 8 = some (.aload_n 0, 1, 0, 0, 0, 0) := rfl
theorem e66_8 (x : Nat) (ls : mL) (st : List Value) (σ : mS) : ev 66 8 (some (.ref x) :: ls) st σ = ev 66 9 (some (.ref x) :: ls) (.ref x :: st) σ := e_aload1 k66_8 rfl
theorem k66_9 : cod 66 9 = some (.getfield 30, 3, 6, 13, 0, 3) := rfl
theorem e66_9 (t : Nat) (ls : mL) (st : List Value) (σ : mS) : ev 66 9 ls (.ref t :: st) σ = gfK (σ.1 t) 6 13 (fun v => ev 66 12 ls (v :: st) σ) := e_getf k66_9
theorem k66_12 : cod 66 12 = some (.iload_n 1, 1, 0, 0, 0, 0) := rfl
theorem e66_12 (a0 : Option Value) (x : Int32) (ls : mL) (st : List Value) (σ : mS) : ev 66 12 (a0 :: some (.int x) :: ls) st σ = ev 66 13 (a0 :: some (.int x) :: ls) (.int x :: st) σ := e_iload1 k66_12 rfl
theorem k66_13 : cod 66 13 = some (.aload_n 0, 1, 0, 0, 0, 0) := rfl
theorem e66_13 (x : Nat) (ls : mL) (st : List Value) (σ : mS) : ev 66 13 (some (.ref x) :: ls) st σ = ev 66 14 (some (.ref x) :: ls) (.ref x :: st) σ := e_aload1 k66_13 rfl
theorem k66_14 : cod 66 14 = some (.getfield 103, 3, 6, 10, 0, 0) := rfl
theorem e66_14 (t : Nat) (ls : mL) (st : List Value) (σ : mS) : ev 66 14 ls (.ref t :: st) σ = gfK (σ.1 t) 6 10 (fun v => ev 66 17 ls (v :: st) σ) := e_getf k66_14
theorem k66_17 : cod 66 17 = some (.iload_n 1, 1, 0, 0, 0, 0) := rfl
theorem e66_17 (a0 : Option Value) (x : Int32) (ls : mL) (st : List Value) (σ : mS) : ev 66 17 (a0 :: some (.int x) :: ls) st σ = ev 66 18 (a0 :: some (.int x) :: ls) (.int x :: st) σ := e_iload1 k66_17 rfl
theorem k66_18 : cod 66 18 = some (.invokestatic 74, 3, 84, 2, 1, 0) := rfl
theorem e66_18 (x0 : Int32) (x1 : Int32) (ls : mL) (st : List Value) (σ : mS) (hm : mCat st ≤ 8) : ev 66 18 ls (.int x1 :: .int x0 :: st) σ = (evM 84 [.int x0, .int x1] σ).bind fun z => ev 66 21 ls (z.1.toList ++ st) z.2 := e_callS k66_18 (by decide) rfl ⟨hm, Nat.le_of_ble_eq_true rfl⟩
theorem k66_21 : cod 66 21 = some (.ifCond .eq (7), 3, 28, 0, 0, 0) := rfl
theorem e66_21 (x : Int32) (ls : mL) (st : List Value) (σ : mS) : ev 66 21 ls (.int x :: st) σ = if x = 0 then ev 66 28 ls st σ else ev 66 24 ls st σ := e_if_eq k66_21
theorem k66_24 : cod 66 24 = some (.iconst 0, 1, 0, 0, 0, 0) := rfl
theorem e66_24 (ls : mL) (st : List Value) (σ : mS) : ev 66 24 ls st σ = ev 66 25 ls (.int 0 :: st) σ := e_iconst 0 k66_24 (by decide)
theorem k66_25 : cod 66 25 = some (.goto (5), 3, 30, 0, 0, 0) := rfl
theorem e66_25 (ls : mL) (st : List Value) (σ : mS) : ev 66 25 ls st σ = ev 66 30 ls st σ := e_goto k66_25
theorem k66_28 : cod 66 28 = some (.bipush (-9), 2, 0, 0, 0, 0) := rfl
theorem e66_28 (ls : mL) (st : List Value) (σ : mS) : ev 66 28 ls st σ = ev 66 30 ls (.int (-9) :: st) σ := e_bipush (-9) k66_28 (by decide)
theorem k66_30 : cod 66 30 = some (.iastore, 1, 0, 0, 0, 0) := rfl
theorem e66_30 (j x : Int32) (t : Nat) (ls : mL) (st : List Value) (σ : mS) : ev 66 30 ls (.int x :: .int j :: .ref t :: st) σ = asK (σ.1 t) 0 j x (fun e => ev 66 31 ls st (mset σ t e)) := e_iast k66_30
theorem k66_31 : cod 66 31 = some (.iinc 1 (1), 3, 0, 0, 0, 0) := rfl
theorem e66_31i (y : Int32) (x : Int32) (ls : mL) (st : List Value) (σ : mS) : ev 66 31 (some (.int y) :: some (.int x) :: ls) st σ = ev 66 34 (some (.int y) :: some (.int (x + 1)) :: ls) st σ := e_iinc 1 k66_31 (by decide) rfl
theorem e66_31n (x : Int32) (ls : mL) (st : List Value) (σ : mS) : ev 66 31 (none :: some (.int x) :: ls) st σ = ev 66 34 (none :: some (.int (x + 1)) :: ls) st σ := e_iinc 1 k66_31 (by decide) rfl
theorem e66_31r (y : Nat) (x : Int32) (ls : mL) (st : List Value) (σ : mS) : ev 66 31 (some (.ref y) :: some (.int x) :: ls) st σ = ev 66 34 (some (.ref y) :: some (.int (x + 1)) :: ls) st σ := e_iinc 1 k66_31 (by decide) rfl
theorem k66_34 : cod 66 34 = some (.goto (-32), 3, 2, 0, 0, 0) := rfl
theorem e66_34 (ls : mL) (st : List Value) (σ : mS) : ev 66 34 ls st σ = ev 66 2 ls st σ := e_goto k66_34
theorem k66_37 : cod 66 37 = some (.aload_n 0, 1, 0, 0, 0, 0) := rfl
theorem e66_37 (x : Nat) (ls : mL) (st : List Value) (σ : mS) : ev 66 37 (some (.ref x) :: ls) st σ = ev 66 38 (some (.ref x) :: ls) (.ref x :: st) σ := e_aload1 k66_37 rfl
theorem k66_38 : cod 66 38 = some (.getfield 103, 3, 6, 10, 0, 0) := rfl
theorem e66_38 (t : Nat) (ls : mL) (st : List Value) (σ : mS) : ev 66 38 ls (.ref t :: st) σ = gfK (σ.1 t) 6 10 (fun v => ev 66 41 ls (v :: st) σ) := e_getf k66_38
theorem k66_41 : cod 66 41 = some (.istore_n 1, 1, 0, 0, 0, 0) := rfl
theorem e66_41i (y : Int32) (o : Option Value) (x : Int32) (ls : mL) (st : List Value) (σ : mS) : ev 66 41 (some (.int y) :: o :: ls) (.int x :: st) σ = ev 66 42 (some (.int y) :: some (.int x) :: ls) st σ := e_istore1 k66_41 (Nat.le_add_left 2 ls.length)
theorem e66_41n (o : Option Value) (x : Int32) (ls : mL) (st : List Value) (σ : mS) : ev 66 41 (none :: o :: ls) (.int x :: st) σ = ev 66 42 (none :: some (.int x) :: ls) st σ := e_istore1 k66_41 (Nat.le_add_left 2 ls.length)
theorem e66_41r (y : Nat) (o : Option Value) (x : Int32) (ls : mL) (st : List Value) (σ : mS) : ev 66 41 (some (.ref y) :: o :: ls) (.int x :: st) σ = ev 66 42 (some (.ref y) :: some (.int x) :: ls) st σ := e_istore1 k66_41 (Nat.le_add_left 2 ls.length)
theorem k66_42 : cod 66 42 = some (.iconst 1, 1, 0, 0, 0, 0) := rfl
theorem e66_42 (ls : mL) (st : List Value) (σ : mS) : ev 66 42 ls st σ = ev 66 43 ls (.int 1 :: st) σ := e_iconst 1 k66_42 (by decide)
theorem k66_43 : cod 66 43 = some (.istore_n 2, 1, 0, 0, 0, 0) := rfl
theorem e66_43i (a0 : Option Value) (y : Int32) (o : Option Value) (x : Int32) (ls : mL) (st : List Value) (σ : mS) : ev 66 43 (a0 :: some (.int y) :: o :: ls) (.int x :: st) σ = ev 66 44 (a0 :: some (.int y) :: some (.int x) :: ls) st σ := e_istore1 k66_43 (Nat.le_add_left 3 ls.length)
theorem e66_43n (a0 : Option Value) (o : Option Value) (x : Int32) (ls : mL) (st : List Value) (σ : mS) : ev 66 43 (a0 :: none :: o :: ls) (.int x :: st) σ = ev 66 44 (a0 :: none :: some (.int x) :: ls) st σ := e_istore1 k66_43 (Nat.le_add_left 3 ls.length)
theorem e66_43r (a0 : Option Value) (y : Nat) (o : Option Value) (x : Int32) (ls : mL) (st : List Value) (σ : mS) : ev 66 43 (a0 :: some (.ref y) :: o :: ls) (.int x :: st) σ = ev 66 44 (a0 :: some (.ref y) :: some (.int x) :: ls) st σ := e_istore1 k66_43 (Nat.le_add_left 3 ls.length)
theorem k66_44 : cod 66 44 = some (.iload_n 2, 1, 0, 0, 0, 0) := rfl
theorem e66_44 (a0 a1 : Option Value) (x : Int32) (ls : mL) (st : List Value) (σ : mS) : ev 66 44 (a0 :: a1 :: some (.int x) :: ls) st σ = ev 66 45 (a0 :: a1 :: some (.int x) :: ls) (.int x :: st) σ := e_iload1 k66_44 rfl
theorem k66_45 : cod 66 45 = some (.bipush (16), 2, 0, 0, 0, 0) := rfl
theorem e66_45 (ls : mL) (st : List Value) (σ : mS) : ev 66 45 ls st σ = ev 66 47 ls (.int 16 :: st) σ := e_bipush 16 k66_45 (by decide)
theorem k66_47 : cod 66 47 = some (.if_icmp .gt (75), 3, 122, 0, 0, 0) := rfl
theorem e66_47 (x y : Int32) (ls : mL) (st : List Value) (σ : mS) : ev 66 47 ls (.int y :: .int x :: st) σ = if y < x then ev 66 122 ls st σ else ev 66 50 ls st σ := e_ic_gt k66_47
theorem k66_50 : cod 66 50 = some (.iconst 0, 1, 0, 0, 0, 0) := rfl
theorem e66_50 (ls : mL) (st : List Value) (σ : mS) : ev 66 50 ls st σ = ev 66 51 ls (.int 0 :: st) σ := e_iconst 0 k66_50 (by decide)
theorem k66_51 : cod 66 51 = some (.istore_n 3, 1, 0, 0, 0, 0) := rfl
theorem e66_51i (a0 a1 : Option Value) (y : Int32) (o : Option Value) (x : Int32) (ls : mL) (st : List Value) (σ : mS) : ev 66 51 (a0 :: a1 :: some (.int y) :: o :: ls) (.int x :: st) σ = ev 66 52 (a0 :: a1 :: some (.int y) :: some (.int x) :: ls) st σ := e_istore1 k66_51 (Nat.le_add_left 4 ls.length)
theorem e66_51n (a0 a1 : Option Value) (o : Option Value) (x : Int32) (ls : mL) (st : List Value) (σ : mS) : ev 66 51 (a0 :: a1 :: none :: o :: ls) (.int x :: st) σ = ev 66 52 (a0 :: a1 :: none :: some (.int x) :: ls) st σ := e_istore1 k66_51 (Nat.le_add_left 4 ls.length)
theorem e66_51r (a0 a1 : Option Value) (y : Nat) (o : Option Value) (x : Int32) (ls : mL) (st : List Value) (σ : mS) : ev 66 51 (a0 :: a1 :: some (.ref y) :: o :: ls) (.int x :: st) σ = ev 66 52 (a0 :: a1 :: some (.ref y) :: some (.int x) :: ls) st σ := e_istore1 k66_51 (Nat.le_add_left 4 ls.length)
theorem k66_52 : cod 66 52 = some (.iconst 0, 1, 0, 0, 0, 0) := rfl
theorem e66_52 (ls : mL) (st : List Value) (σ : mS) : ev 66 52 ls st σ = ev 66 53 ls (.int 0 :: st) σ := e_iconst 0 k66_52 (by decide)
theorem k66_53 : cod 66 53 = some (.istore 4, 2, 0, 0, 0, 0) := rfl
theorem e66_53i (a0 a1 a2 : Option Value) (y : Int32) (o : Option Value) (x : Int32) (ls : mL) (st : List Value) (σ : mS) : ev 66 53 (a0 :: a1 :: a2 :: some (.int y) :: o :: ls) (.int x :: st) σ = ev 66 55 (a0 :: a1 :: a2 :: some (.int y) :: some (.int x) :: ls) st σ := e_istore0 k66_53 (Nat.le_add_left 5 ls.length)
theorem e66_53n (a0 a1 a2 : Option Value) (o : Option Value) (x : Int32) (ls : mL) (st : List Value) (σ : mS) : ev 66 53 (a0 :: a1 :: a2 :: none :: o :: ls) (.int x :: st) σ = ev 66 55 (a0 :: a1 :: a2 :: none :: some (.int x) :: ls) st σ := e_istore0 k66_53 (Nat.le_add_left 5 ls.length)
theorem e66_53r (a0 a1 a2 : Option Value) (y : Nat) (o : Option Value) (x : Int32) (ls : mL) (st : List Value) (σ : mS) : ev 66 53 (a0 :: a1 :: a2 :: some (.ref y) :: o :: ls) (.int x :: st) σ = ev 66 55 (a0 :: a1 :: a2 :: some (.ref y) :: some (.int x) :: ls) st σ := e_istore0 k66_53 (Nat.le_add_left 5 ls.length)
theorem k66_55 : cod 66 55 = some (.iload 4, 2, 0, 0, 0, 0) := rfl
theorem e66_55 (a0 a1 a2 a3 : Option Value) (x : Int32) (ls : mL) (st : List Value) (σ : mS) : ev 66 55 (a0 :: a1 :: a2 :: a3 :: some (.int x) :: ls) st σ = ev 66 57 (a0 :: a1 :: a2 :: a3 :: some (.int x) :: ls) (.int x :: st) σ := e_iload0 k66_55 rfl
theorem k66_57 : cod 66 57 = some (.bipush (16), 2, 0, 0, 0, 0) := rfl
theorem e66_57 (ls : mL) (st : List Value) (σ : mS) : ev 66 57 ls st σ = ev 66 59 ls (.int 16 :: st) σ := e_bipush 16 k66_57 (by decide)
theorem k66_59 : cod 66 59 = some (.if_icmp .ge (53), 3, 112, 0, 0, 0) := rfl
theorem e66_59 (x y : Int32) (ls : mL) (st : List Value) (σ : mS) : ev 66 59 ls (.int y :: .int x :: st) σ = if y ≤ x then ev 66 112 ls st σ else ev 66 62 ls st σ := e_ic_ge k66_59
theorem k66_62 : cod 66 62 = some (.iload_n 1, 1, 0, 0, 0, 0) := rfl
theorem e66_62 (a0 : Option Value) (x : Int32) (ls : mL) (st : List Value) (σ : mS) : ev 66 62 (a0 :: some (.int x) :: ls) st σ = ev 66 63 (a0 :: some (.int x) :: ls) (.int x :: st) σ := e_iload1 k66_62 rfl
theorem k66_63 : cod 66 63 = some (.aload_n 0, 1, 0, 0, 0, 0) := rfl
theorem e66_63 (x : Nat) (ls : mL) (st : List Value) (σ : mS) : ev 66 63 (some (.ref x) :: ls) st σ = ev 66 64 (some (.ref x) :: ls) (.ref x :: st) σ := e_aload1 k66_63 rfl
theorem k66_64 : cod 66 64 = some (.getfield 107, 3, 6, 11, 0, 0) := rfl
theorem e66_64 (t : Nat) (ls : mL) (st : List Value) (σ : mS) : ev 66 64 ls (.ref t :: st) σ = gfK (σ.1 t) 6 11 (fun v => ev 66 67 ls (v :: st) σ) := e_getf k66_64
theorem k66_67 : cod 66 67 = some (.ior, 1, 0, 0, 0, 0) := rfl
theorem e66_67 (x y : Int32) (ls : mL) (st : List Value) (σ : mS) : ev 66 67 ls (.int y :: .int x :: st) σ = ev 66 68 ls (.int (x ||| y) :: st) σ := e_ior k66_67
theorem k66_68 : cod 66 68 = some (.iload 4, 2, 0, 0, 0, 0) := rfl
theorem e66_68 (a0 a1 a2 a3 : Option Value) (x : Int32) (ls : mL) (st : List Value) (σ : mS) : ev 66 68 (a0 :: a1 :: a2 :: a3 :: some (.int x) :: ls) st σ = ev 66 70 (a0 :: a1 :: a2 :: a3 :: some (.int x) :: ls) (.int x :: st) σ := e_iload0 k66_68 rfl
theorem k66_70 : cod 66 70 = some (.invokestatic 74, 3, 84, 2, 1, 0) := rfl
theorem e66_70 (x0 : Int32) (x1 : Int32) (ls : mL) (st : List Value) (σ : mS) (hm : mCat st ≤ 8) : ev 66 70 ls (.int x1 :: .int x0 :: st) σ = (evM 84 [.int x0, .int x1] σ).bind fun z => ev 66 73 ls (z.1.toList ++ st) z.2 := e_callS k66_70 (by decide) rfl ⟨hm, Nat.le_of_ble_eq_true rfl⟩
theorem k66_73 : cod 66 73 = some (.ifCond .ne (33), 3, 106, 0, 0, 0) := rfl
theorem e66_73 (x : Int32) (ls : mL) (st : List Value) (σ : mS) : ev 66 73 ls (.int x :: st) σ = if x = 0 then ev 66 76 ls st σ else ev 66 106 ls st σ := e_if_ne k66_73
theorem k66_76 : cod 66 76 = some (.aload_n 0, 1, 0, 0, 0, 0) := rfl
theorem e66_76 (x : Nat) (ls : mL) (st : List Value) (σ : mS) : ev 66 76 (some (.ref x) :: ls) st σ = ev 66 77 (some (.ref x) :: ls) (.ref x :: st) σ := e_aload1 k66_76 rfl
theorem k66_77 : cod 66 77 = some (.iload 4, 2, 0, 0, 0, 0) := rfl
theorem e66_77 (a0 a1 a2 a3 : Option Value) (x : Int32) (ls : mL) (st : List Value) (σ : mS) : ev 66 77 (a0 :: a1 :: a2 :: a3 :: some (.int x) :: ls) st σ = ev 66 79 (a0 :: a1 :: a2 :: a3 :: some (.int x) :: ls) (.int x :: st) σ := e_iload0 k66_77 rfl
theorem k66_79 : cod 66 79 = some (.ldc 106, 2, 65535, 0, 0, 0) := rfl
theorem e66_79 (ls : mL) (st : List Value) (σ : mS) : ev 66 79 ls st σ = ev 66 81 ls (.int 65535 :: st) σ := e_ldcI 65535 k66_79 (by decide)
theorem k66_81 : cod 66 81 = some (.iload_n 1, 1, 0, 0, 0, 0) := rfl
theorem e66_81 (a0 : Option Value) (x : Int32) (ls : mL) (st : List Value) (σ : mS) : ev 66 81 (a0 :: some (.int x) :: ls) st σ = ev 66 82 (a0 :: some (.int x) :: ls) (.int x :: st) σ := e_iload1 k66_81 rfl
theorem k66_82 : cod 66 82 = some (.iconst (-1), 1, 0, 0, 0, 0) := rfl
theorem e66_82 (ls : mL) (st : List Value) (σ : mS) : ev 66 82 ls st σ = ev 66 83 ls (.int (-1) :: st) σ := e_iconst (-1) k66_82 (by decide)
theorem k66_83 : cod 66 83 = some (.ixor, 1, 0, 0, 0, 0) := rfl
theorem e66_83 (x y : Int32) (ls : mL) (st : List Value) (σ : mS) : ev 66 83 ls (.int y :: .int x :: st) σ = ev 66 84 ls (.int (x ^^^ y) :: st) σ := e_ixor k66_83
theorem k66_84 : cod 66 84 = some (.iand, 1, 0, 0, 0, 0) := rfl
theorem e66_84 (x y : Int32) (ls : mL) (st : List Value) (σ : mS) : ev 66 84 ls (.int y :: .int x :: st) σ = ev 66 85 ls (.int (x &&& y) :: st) σ := e_iand k66_84
theorem k66_85 : cod 66 85 = some (.invokevirtual 113, 3, 61, 2, 0, 6) := rfl
theorem e66_85 (t : Nat) (x0 : Int32) (x1 : Int32) (ls : mL) (st : List Value) (σ : mS) (hm : mCat st ≤ 8) : ev 66 85 ls (.int x1 :: .int x0 :: .ref t :: st) σ = isC (σ.1 t) 6 ((evM 61 [.ref t, .int x0, .int x1] σ).bind fun z => ev 66 88 ls (z.1.toList ++ st) z.2) := e_callVK k66_85 (by decide) rfl ⟨hm, Nat.le_of_ble_eq_true rfl⟩
theorem k66_88 : cod 66 88 = some (.ifCond .ne (18), 3, 106, 0, 0, 0) := rfl
theorem e66_88 (x : Int32) (ls : mL) (st : List Value) (σ : mS) : ev 66 88 ls (.int x :: st) σ = if x = 0 then ev 66 91 ls st σ else ev 66 106 ls st σ := e_if_ne k66_88
theorem k66_91 : cod 66 91 = some (.aload_n 0, 1, 0, 0, 0, 0) := rfl
theorem e66_91 (x : Nat) (ls : mL) (st : List Value) (σ : mS) : ev 66 91 (some (.ref x) :: ls) st σ = ev 66 92 (some (.ref x) :: ls) (.ref x :: st) σ := e_aload1 k66_91 rfl
theorem k66_92 : cod 66 92 = some (.getfield 30, 3, 6, 13, 0, 3) := rfl
theorem e66_92 (t : Nat) (ls : mL) (st : List Value) (σ : mS) : ev 66 92 ls (.ref t :: st) σ = gfK (σ.1 t) 6 13 (fun v => ev 66 95 ls (v :: st) σ) := e_getf k66_92
theorem k66_95 : cod 66 95 = some (.iload 4, 2, 0, 0, 0, 0) := rfl
theorem e66_95 (a0 a1 a2 a3 : Option Value) (x : Int32) (ls : mL) (st : List Value) (σ : mS) : ev 66 95 (a0 :: a1 :: a2 :: a3 :: some (.int x) :: ls) st σ = ev 66 97 (a0 :: a1 :: a2 :: a3 :: some (.int x) :: ls) (.int x :: st) σ := e_iload0 k66_95 rfl
theorem k66_97 : cod 66 97 = some (.iload_n 2, 1, 0, 0, 0, 0) := rfl
theorem e66_97 (a0 a1 : Option Value) (x : Int32) (ls : mL) (st : List Value) (σ : mS) : ev 66 97 (a0 :: a1 :: some (.int x) :: ls) st σ = ev 66 98 (a0 :: a1 :: some (.int x) :: ls) (.int x :: st) σ := e_iload1 k66_97 rfl
theorem k66_98 : cod 66 98 = some (.iastore, 1, 0, 0, 0, 0) := rfl
theorem e66_98 (j x : Int32) (t : Nat) (ls : mL) (st : List Value) (σ : mS) : ev 66 98 ls (.int x :: .int j :: .ref t :: st) σ = asK (σ.1 t) 0 j x (fun e => ev 66 99 ls st (mset σ t e)) := e_iast k66_98
theorem k66_99 : cod 66 99 = some (.iload_n 3, 1, 0, 0, 0, 0) := rfl
theorem e66_99 (a0 a1 a2 : Option Value) (x : Int32) (ls : mL) (st : List Value) (σ : mS) : ev 66 99 (a0 :: a1 :: a2 :: some (.int x) :: ls) st σ = ev 66 100 (a0 :: a1 :: a2 :: some (.int x) :: ls) (.int x :: st) σ := e_iload1 k66_99 rfl
theorem k66_100 : cod 66 100 = some (.iconst 1, 1, 0, 0, 0, 0) := rfl
theorem e66_100 (ls : mL) (st : List Value) (σ : mS) : ev 66 100 ls st σ = ev 66 101 ls (.int 1 :: st) σ := e_iconst 1 k66_100 (by decide)
theorem k66_101 : cod 66 101 = some (.iload 4, 2, 0, 0, 0, 0) := rfl
theorem e66_101 (a0 a1 a2 a3 : Option Value) (x : Int32) (ls : mL) (st : List Value) (σ : mS) : ev 66 101 (a0 :: a1 :: a2 :: a3 :: some (.int x) :: ls) st σ = ev 66 103 (a0 :: a1 :: a2 :: a3 :: some (.int x) :: ls) (.int x :: st) σ := e_iload0 k66_101 rfl
theorem k66_103 : cod 66 103 = some (.ishl, 1, 0, 0, 0, 0) := rfl
theorem e66_103 (x y : Int32) (ls : mL) (st : List Value) (σ : mS) : ev 66 103 ls (.int y :: .int x :: st) σ = ev 66 104 ls (.int (x <<< (y &&& 31)) :: st) σ := e_ishl k66_103
theorem k66_104 : cod 66 104 = some (.ior, 1, 0, 0, 0, 0) := rfl
theorem e66_104 (x y : Int32) (ls : mL) (st : List Value) (σ : mS) : ev 66 104 ls (.int y :: .int x :: st) σ = ev 66 105 ls (.int (x ||| y) :: st) σ := e_ior k66_104
theorem k66_105 : cod 66 105 = some (.istore_n 3, 1, 0, 0, 0, 0) := rfl
theorem e66_105i (a0 a1 : Option Value) (y : Int32) (o : Option Value) (x : Int32) (ls : mL) (st : List Value) (σ : mS) : ev 66 105 (a0 :: a1 :: some (.int y) :: o :: ls) (.int x :: st) σ = ev 66 106 (a0 :: a1 :: some (.int y) :: some (.int x) :: ls) st σ := e_istore1 k66_105 (Nat.le_add_left 4 ls.length)
theorem e66_105n (a0 a1 : Option Value) (o : Option Value) (x : Int32) (ls : mL) (st : List Value) (σ : mS) : ev 66 105 (a0 :: a1 :: none :: o :: ls) (.int x :: st) σ = ev 66 106 (a0 :: a1 :: none :: some (.int x) :: ls) st σ := e_istore1 k66_105 (Nat.le_add_left 4 ls.length)
theorem e66_105r (a0 a1 : Option Value) (y : Nat) (o : Option Value) (x : Int32) (ls : mL) (st : List Value) (σ : mS) : ev 66 105 (a0 :: a1 :: some (.ref y) :: o :: ls) (.int x :: st) σ = ev 66 106 (a0 :: a1 :: some (.ref y) :: some (.int x) :: ls) st σ := e_istore1 k66_105 (Nat.le_add_left 4 ls.length)
theorem k66_106 : cod 66 106 = some (.iinc 4 (1), 3, 0, 0, 0, 0) := rfl
theorem e66_106i (a0 a1 a2 : Option Value) (y : Int32) (x : Int32) (ls : mL) (st : List Value) (σ : mS) : ev 66 106 (a0 :: a1 :: a2 :: some (.int y) :: some (.int x) :: ls) st σ = ev 66 109 (a0 :: a1 :: a2 :: some (.int y) :: some (.int (x + 1)) :: ls) st σ := e_iinc 1 k66_106 (by decide) rfl
theorem e66_106n (a0 a1 a2 : Option Value) (x : Int32) (ls : mL) (st : List Value) (σ : mS) : ev 66 106 (a0 :: a1 :: a2 :: none :: some (.int x) :: ls) st σ = ev 66 109 (a0 :: a1 :: a2 :: none :: some (.int (x + 1)) :: ls) st σ := e_iinc 1 k66_106 (by decide) rfl
theorem e66_106r (a0 a1 a2 : Option Value) (y : Nat) (x : Int32) (ls : mL) (st : List Value) (σ : mS) : ev 66 106 (a0 :: a1 :: a2 :: some (.ref y) :: some (.int x) :: ls) st σ = ev 66 109 (a0 :: a1 :: a2 :: some (.ref y) :: some (.int (x + 1)) :: ls) st σ := e_iinc 1 k66_106 (by decide) rfl
theorem k66_109 : cod 66 109 = some (.goto (-54), 3, 55, 0, 0, 0) := rfl
theorem e66_109 (ls : mL) (st : List Value) (σ : mS) : ev 66 109 ls st σ = ev 66 55 ls st σ := e_goto k66_109
theorem k66_112 : cod 66 112 = some (.iload_n 1, 1, 0, 0, 0, 0) := rfl
theorem e66_112 (a0 : Option Value) (x : Int32) (ls : mL) (st : List Value) (σ : mS) : ev 66 112 (a0 :: some (.int x) :: ls) st σ = ev 66 113 (a0 :: some (.int x) :: ls) (.int x :: st) σ := e_iload1 k66_112 rfl
theorem k66_113 : cod 66 113 = some (.iload_n 3, 1, 0, 0, 0, 0) := rfl
theorem e66_113 (a0 a1 a2 : Option Value) (x : Int32) (ls : mL) (st : List Value) (σ : mS) : ev 66 113 (a0 :: a1 :: a2 :: some (.int x) :: ls) st σ = ev 66 114 (a0 :: a1 :: a2 :: some (.int x) :: ls) (.int x :: st) σ := e_iload1 k66_113 rfl
theorem k66_114 : cod 66 114 = some (.ior, 1, 0, 0, 0, 0) := rfl
theorem e66_114 (x y : Int32) (ls : mL) (st : List Value) (σ : mS) : ev 66 114 ls (.int y :: .int x :: st) σ = ev 66 115 ls (.int (x ||| y) :: st) σ := e_ior k66_114
theorem k66_115 : cod 66 115 = some (.istore_n 1, 1, 0, 0, 0, 0) := rfl
theorem e66_115i (y : Int32) (o : Option Value) (x : Int32) (ls : mL) (st : List Value) (σ : mS) : ev 66 115 (some (.int y) :: o :: ls) (.int x :: st) σ = ev 66 116 (some (.int y) :: some (.int x) :: ls) st σ := e_istore1 k66_115 (Nat.le_add_left 2 ls.length)
theorem e66_115n (o : Option Value) (x : Int32) (ls : mL) (st : List Value) (σ : mS) : ev 66 115 (none :: o :: ls) (.int x :: st) σ = ev 66 116 (none :: some (.int x) :: ls) st σ := e_istore1 k66_115 (Nat.le_add_left 2 ls.length)
theorem e66_115r (y : Nat) (o : Option Value) (x : Int32) (ls : mL) (st : List Value) (σ : mS) : ev 66 115 (some (.ref y) :: o :: ls) (.int x :: st) σ = ev 66 116 (some (.ref y) :: some (.int x) :: ls) st σ := e_istore1 k66_115 (Nat.le_add_left 2 ls.length)
theorem k66_116 : cod 66 116 = some (.iinc 2 (1), 3, 0, 0, 0, 0) := rfl
theorem e66_116i (a0 : Option Value) (y : Int32) (x : Int32) (ls : mL) (st : List Value) (σ : mS) : ev 66 116 (a0 :: some (.int y) :: some (.int x) :: ls) st σ = ev 66 119 (a0 :: some (.int y) :: some (.int (x + 1)) :: ls) st σ := e_iinc 1 k66_116 (by decide) rfl
theorem e66_116n (a0 : Option Value) (x : Int32) (ls : mL) (st : List Value) (σ : mS) : ev 66 116 (a0 :: none :: some (.int x) :: ls) st σ = ev 66 119 (a0 :: none :: some (.int (x + 1)) :: ls) st σ := e_iinc 1 k66_116 (by decide) rfl
theorem e66_116r (a0 : Option Value) (y : Nat) (x : Int32) (ls : mL) (st : List Value) (σ : mS) : ev 66 116 (a0 :: some (.ref y) :: some (.int x) :: ls) st σ = ev 66 119 (a0 :: some (.ref y) :: some (.int (x + 1)) :: ls) st σ := e_iinc 1 k66_116 (by decide) rfl
theorem k66_119 : cod 66 119 = some (.goto (-75), 3, 44, 0, 0, 0) := rfl
theorem e66_119 (ls : mL) (st : List Value) (σ : mS) : ev 66 119 ls st σ = ev 66 44 ls st σ := e_goto k66_119
theorem k66_122 : cod 66 122 = some (.return_, 1, 0, 0, 0, 0) := rfl
theorem e66_122 (ls : mL) (σ : mS) : ev 66 122 ls [] σ = some (none, σ) := e_vret k66_122 rfl
theorem m66 (t : Nat) (σ : mS) : evM 66 [.ref t] σ = ev 66 0 [some (.ref t), none, none, none, none] [] σ := rfl
theorem k67_0 : cod 67 0 = some (.iload_n 1, 1, 0, 0, 0, 0) := rfl
theorem e67_0 (a0 : Option Value) (x : Int32) (ls : mL) (st : List Value) (σ : mS) : ev 67 0 (a0 :: some (.int x) :: ls) st σ = ev 67 1 (a0 :: some (.int x) :: ls) (.int x :: st) σ := e_iload1 k67_0 rfl
theorem k67_1 : cod 67 1 = some (.aload_n 0, 1, 0, 0, 0, 0) := rfl
theorem e67_1 (x : Nat) (ls : mL) (st : List Value) (σ : mS) : ev 67 1 (some (.ref x) :: ls) st σ = ev 67 2 (some (.ref x) :: ls) (.ref x :: st) σ := e_aload1 k67_1 rfl
theorem k67_2 : cod 67 2 = some (.getfield 107, 3, 6, 11, 0, 0) := rfl
theorem e67_2 (t : Nat) (ls : mL) (st : List Value) (σ : mS) : ev 67 2 ls (.ref t :: st) σ = gfK (σ.1 t) 6 11 (fun v => ev 67 5 ls (v :: st) σ) := e_getf k67_2
theorem k67_5 : cod 67 5 = some (.iand, 1, 0, 0, 0, 0) := rfl
theorem e67_5 (x y : Int32) (ls : mL) (st : List Value) (σ : mS) : ev 67 5 ls (.int y :: .int x :: st) σ = ev 67 6 ls (.int (x &&& y) :: st) σ := e_iand k67_5
theorem k67_6 : cod 67 6 = some (.istore_n 3, 1, 0, 0, 0, 0) := rfl
theorem e67_6i (a0 a1 : Option Value) (y : Int32) (o : Option Value) (x : Int32) (ls : mL) (st : List Value) (σ : mS) : ev 67 6 (a0 :: a1 :: some (.int y) :: o :: ls) (.int x :: st) σ = ev 67 7 (a0 :: a1 :: some (.int y) :: some (.int x) :: ls) st σ := e_istore1 k67_6 (Nat.le_add_left 4 ls.length)
theorem e67_6n (a0 a1 : Option Value) (o : Option Value) (x : Int32) (ls : mL) (st : List Value) (σ : mS) : ev 67 6 (a0 :: a1 :: none :: o :: ls) (.int x :: st) σ = ev 67 7 (a0 :: a1 :: none :: some (.int x) :: ls) st σ := e_istore1 k67_6 (Nat.le_add_left 4 ls.length)
theorem e67_6r (a0 a1 : Option Value) (y : Nat) (o : Option Value) (x : Int32) (ls : mL) (st : List Value) (σ : mS) : ev 67 6 (a0 :: a1 :: some (.ref y) :: o :: ls) (.int x :: st) σ = ev 67 7 (a0 :: a1 :: some (.ref y) :: some (.int x) :: ls) st σ := e_istore1 k67_6 (Nat.le_add_left 4 ls.length)
theorem k67_7 : cod 67 7 = some (.iconst 0, 1, 0, 0, 0, 0) := rfl
theorem e67_7 (ls : mL) (st : List Value) (σ : mS) : ev 67 7 ls st σ = ev 67 8 ls (.int 0 :: st) σ := e_iconst 0 k67_7 (by decide)
theorem k67_8 : cod 67 8 = some (.istore 4, 2, 0, 0, 0, 0) := rfl
theorem e67_8i (a0 a1 a2 : Option Value) (y : Int32) (o : Option Value) (x : Int32) (ls : mL) (st : List Value) (σ : mS) : ev 67 8 (a0 :: a1 :: a2 :: some (.int y) :: o :: ls) (.int x :: st) σ = ev 67 10 (a0 :: a1 :: a2 :: some (.int y) :: some (.int x) :: ls) st σ := e_istore0 k67_8 (Nat.le_add_left 5 ls.length)
theorem e67_8n (a0 a1 a2 : Option Value) (o : Option Value) (x : Int32) (ls : mL) (st : List Value) (σ : mS) : ev 67 8 (a0 :: a1 :: a2 :: none :: o :: ls) (.int x :: st) σ = ev 67 10 (a0 :: a1 :: a2 :: none :: some (.int x) :: ls) st σ := e_istore0 k67_8 (Nat.le_add_left 5 ls.length)
theorem e67_8r (a0 a1 a2 : Option Value) (y : Nat) (o : Option Value) (x : Int32) (ls : mL) (st : List Value) (σ : mS) : ev 67 8 (a0 :: a1 :: a2 :: some (.ref y) :: o :: ls) (.int x :: st) σ = ev 67 10 (a0 :: a1 :: a2 :: some (.ref y) :: some (.int x) :: ls) st σ := e_istore0 k67_8 (Nat.le_add_left 5 ls.length)
theorem k67_10 : cod 67 10 = some (.iload 4, 2, 0, 0, 0, 0) := rfl
theorem e67_10 (a0 a1 a2 a3 : Option Value) (x : Int32) (ls : mL) (st : List Value) (σ : mS) : ev 67 10 (a0 :: a1 :: a2 :: a3 :: some (.int x) :: ls) st σ = ev 67 12 (a0 :: a1 :: a2 :: a3 :: some (.int x) :: ls) (.int x :: st) σ := e_iload0 k67_10 rfl
theorem k67_12 : cod 67 12 = some (.bipush (16), 2, 0, 0, 0, 0) := rfl
theorem e67_12 (ls : mL) (st : List Value) (σ : mS) : ev 67 12 ls st σ = ev 67 14 ls (.int 16 :: st) σ := e_bipush 16 k67_12 (by decide)
theorem k67_14 : cod 67 14 = some (.if_icmp .ge (35), 3, 49, 0, 0, 0) := rfl
theorem e67_14 (x y : Int32) (ls : mL) (st : List Value) (σ : mS) : ev 67 14 ls (.int y :: .int x :: st) σ = if y ≤ x then ev 67 49 ls st σ else ev 67 17 ls st σ := e_ic_ge k67_14
theorem k67_17 : cod 67 17 = some (.iload 4, 2, 0, 0, 0, 0) := rfl
theorem e67_17 (a0 a1 a2 a3 : Option Value) (x : Int32) (ls : mL) (st : List Value) (σ : mS) : ev 67 17 (a0 :: a1 :: a2 :: a3 :: some (.int x) :: ls) st σ = ev 67 19 (a0 :: a1 :: a2 :: a3 :: some (.int x) :: ls) (.int x :: st) σ := e_iload0 k67_17 rfl
theorem k67_19 : cod 67 19 = some (.aload_n 2, 1, 0, 0, 0, 0) := rfl
theorem e67_19 (a0 a1 : Option Value) (x : Nat) (ls : mL) (st : List Value) (σ : mS) : ev 67 19 (a0 :: a1 :: some (.ref x) :: ls) st σ = ev 67 20 (a0 :: a1 :: some (.ref x) :: ls) (.ref x :: st) σ := e_aload1 k67_19 rfl
theorem k67_20 : cod 67 20 = some (.arraylength, 1, 0, 0, 0, 0) := rfl
theorem e67_20 (t : Nat) (ls : mL) (st : List Value) (σ : mS) : ev 67 20 ls (.ref t :: st) σ = lnK (σ.1 t) (fun v => ev 67 21 ls (.int v :: st) σ) := e_alenK k67_20
theorem k67_21 : cod 67 21 = some (.if_icmp .ge (28), 3, 49, 0, 0, 0) := rfl
theorem e67_21 (x y : Int32) (ls : mL) (st : List Value) (σ : mS) : ev 67 21 ls (.int y :: .int x :: st) σ = if y ≤ x then ev 67 49 ls st σ else ev 67 24 ls st σ := e_ic_ge k67_21
theorem k67_24 : cod 67 24 = some (.aload_n 2, 1, 0, 0, 0, 0) := rfl
theorem e67_24 (a0 a1 : Option Value) (x : Nat) (ls : mL) (st : List Value) (σ : mS) : ev 67 24 (a0 :: a1 :: some (.ref x) :: ls) st σ = ev 67 25 (a0 :: a1 :: some (.ref x) :: ls) (.ref x :: st) σ := e_aload1 k67_24 rfl
theorem k67_25 : cod 67 25 = some (.iload 4, 2, 0, 0, 0, 0) := rfl
theorem e67_25 (a0 a1 a2 a3 : Option Value) (x : Int32) (ls : mL) (st : List Value) (σ : mS) : ev 67 25 (a0 :: a1 :: a2 :: a3 :: some (.int x) :: ls) st σ = ev 67 27 (a0 :: a1 :: a2 :: a3 :: some (.int x) :: ls) (.int x :: st) σ := e_iload0 k67_25 rfl
theorem k67_27 : cod 67 27 = some (.iload_n 3, 1, 0, 0, 0, 0) := rfl
theorem e67_27 (a0 a1 a2 : Option Value) (x : Int32) (ls : mL) (st : List Value) (σ : mS) : ev 67 27 (a0 :: a1 :: a2 :: some (.int x) :: ls) st σ = ev 67 28 (a0 :: a1 :: a2 :: some (.int x) :: ls) (.int x :: st) σ := e_iload1 k67_27 rfl
theorem k67_28 : cod 67 28 = some (.iload 4, 2, 0, 0, 0, 0) := rfl
theorem e67_28 (a0 a1 a2 a3 : Option Value) (x : Int32) (ls : mL) (st : List Value) (σ : mS) : ev 67 28 (a0 :: a1 :: a2 :: a3 :: some (.int x) :: ls) st σ = ev 67 30 (a0 :: a1 :: a2 :: a3 :: some (.int x) :: ls) (.int x :: st) σ := e_iload0 k67_28 rfl
theorem k67_30 : cod 67 30 = some (.invokestatic 74, 3, 84, 2, 1, 0) := rfl
theorem e67_30 (x0 : Int32) (x1 : Int32) (ls : mL) (st : List Value) (σ : mS) (hm : mCat st ≤ 8) : ev 67 30 ls (.int x1 :: .int x0 :: st) σ = (evM 84 [.int x0, .int x1] σ).bind fun z => ev 67 33 ls (z.1.toList ++ st) z.2 := e_callS k67_30 (by decide) rfl ⟨hm, Nat.le_of_ble_eq_true rfl⟩
theorem k67_33 : cod 67 33 = some (.ifCond .eq (7), 3, 40, 0, 0, 0) := rfl
theorem e67_33 (x : Int32) (ls : mL) (st : List Value) (σ : mS) : ev 67 33 ls (.int x :: st) σ = if x = 0 then ev 67 40 ls st σ else ev 67 36 ls st σ := e_if_eq k67_33
theorem k67_36 : cod 67 36 = some (.iconst 0, 1, 0, 0, 0, 0) := rfl
theorem e67_36 (ls : mL) (st : List Value) (σ : mS) : ev 67 36 ls st σ = ev 67 37 ls (.int 0 :: st) σ := e_iconst 0 k67_36 (by decide)
theorem k67_37 : cod 67 37 = some (.goto (5), 3, 42, 0, 0, 0) := rfl
theorem e67_37 (ls : mL) (st : List Value) (σ : mS) : ev 67 37 ls st σ = ev 67 42 ls st σ := e_goto k67_37
theorem k67_40 : cod 67 40 = some (.bipush (-9), 2, 0, 0, 0, 0) := rfl
theorem e67_40 (ls : mL) (st : List Value) (σ : mS) : ev 67 40 ls st σ = ev 67 42 ls (.int (-9) :: st) σ := e_bipush (-9) k67_40 (by decide)
theorem k67_42 : cod 67 42 = some (.iastore, 1, 0, 0, 0, 0) := rfl
theorem e67_42 (j x : Int32) (t : Nat) (ls : mL) (st : List Value) (σ : mS) : ev 67 42 ls (.int x :: .int j :: .ref t :: st) σ = asK (σ.1 t) 0 j x (fun e => ev 67 43 ls st (mset σ t e)) := e_iast k67_42
theorem k67_43 : cod 67 43 = some (.iinc 4 (1), 3, 0, 0, 0, 0) := rfl
theorem e67_43i (a0 a1 a2 : Option Value) (y : Int32) (x : Int32) (ls : mL) (st : List Value) (σ : mS) : ev 67 43 (a0 :: a1 :: a2 :: some (.int y) :: some (.int x) :: ls) st σ = ev 67 46 (a0 :: a1 :: a2 :: some (.int y) :: some (.int (x + 1)) :: ls) st σ := e_iinc 1 k67_43 (by decide) rfl
theorem e67_43n (a0 a1 a2 : Option Value) (x : Int32) (ls : mL) (st : List Value) (σ : mS) : ev 67 43 (a0 :: a1 :: a2 :: none :: some (.int x) :: ls) st σ = ev 67 46 (a0 :: a1 :: a2 :: none :: some (.int (x + 1)) :: ls) st σ := e_iinc 1 k67_43 (by decide) rfl
theorem e67_43r (a0 a1 a2 : Option Value) (y : Nat) (x : Int32) (ls : mL) (st : List Value) (σ : mS) : ev 67 43 (a0 :: a1 :: a2 :: some (.ref y) :: some (.int x) :: ls) st σ = ev 67 46 (a0 :: a1 :: a2 :: some (.ref y) :: some (.int (x + 1)) :: ls) st σ := e_iinc 1 k67_43 (by decide) rfl
theorem k67_46 : cod 67 46 = some (.goto (-36), 3, 10, 0, 0, 0) := rfl
theorem e67_46 (ls : mL) (st : List Value) (σ : mS) : ev 67 46 ls st σ = ev 67 10 ls st σ := e_goto k67_46
theorem k67_49 : cod 67 49 = some (.iconst 1, 1, 0, 0, 0, 0) := rfl
theorem e67_49 (ls : mL) (st : List Value) (σ : mS) : ev 67 49 ls st σ = ev 67 50 ls (.int 1 :: st) σ := e_iconst 1 k67_49 (by decide)
theorem k67_50 : cod 67 50 = some (.istore 4, 2, 0, 0, 0, 0) := rfl
theorem e67_50i (a0 a1 a2 : Option Value) (y : Int32) (o : Option Value) (x : Int32) (ls : mL) (st : List Value) (σ : mS) : ev 67 50 (a0 :: a1 :: a2 :: some (.int y) :: o :: ls) (.int x :: st) σ = ev 67 52 (a0 :: a1 :: a2 :: some (.int y) :: some (.int x) :: ls) st σ := e_istore0 k67_50 (Nat.le_add_left 5 ls.length)
theorem e67_50n (a0 a1 a2 : Option Value) (o : Option Value) (x : Int32) (ls : mL) (st : List Value) (σ : mS) : ev 67 50 (a0 :: a1 :: a2 :: none :: o :: ls) (.int x :: st) σ = ev 67 52 (a0 :: a1 :: a2 :: none :: some (.int x) :: ls) st σ := e_istore0 k67_50 (Nat.le_add_left 5 ls.length)
theorem e67_50r (a0 a1 a2 : Option Value) (y : Nat) (o : Option Value) (x : Int32) (ls : mL) (st : List Value) (σ : mS) : ev 67 50 (a0 :: a1 :: a2 :: some (.ref y) :: o :: ls) (.int x :: st) σ = ev 67 52 (a0 :: a1 :: a2 :: some (.ref y) :: some (.int x) :: ls) st σ := e_istore0 k67_50 (Nat.le_add_left 5 ls.length)
theorem k67_52 : cod 67 52 = some (.iload 4, 2, 0, 0, 0, 0) := rfl
theorem e67_52 (a0 a1 a2 a3 : Option Value) (x : Int32) (ls : mL) (st : List Value) (σ : mS) : ev 67 52 (a0 :: a1 :: a2 :: a3 :: some (.int x) :: ls) st σ = ev 67 54 (a0 :: a1 :: a2 :: a3 :: some (.int x) :: ls) (.int x :: st) σ := e_iload0 k67_52 rfl
theorem k67_54 : cod 67 54 = some (.bipush (16), 2, 0, 0, 0, 0) := rfl
theorem e67_54 (ls : mL) (st : List Value) (σ : mS) : ev 67 54 ls st σ = ev 67 56 ls (.int 16 :: st) σ := e_bipush 16 k67_54 (by decide)
theorem k67_56 : cod 67 56 = some (.if_icmp .gt (81), 3, 137, 0, 0, 0) := rfl
theorem e67_56 (x y : Int32) (ls : mL) (st : List Value) (σ : mS) : ev 67 56 ls (.int y :: .int x :: st) σ = if y < x then ev 67 137 ls st σ else ev 67 59 ls st σ := e_ic_gt k67_56
theorem k67_59 : cod 67 59 = some (.iconst 0, 1, 0, 0, 0, 0) := rfl
theorem e67_59 (ls : mL) (st : List Value) (σ : mS) : ev 67 59 ls st σ = ev 67 60 ls (.int 0 :: st) σ := e_iconst 0 k67_59 (by decide)
theorem k67_60 : cod 67 60 = some (.istore 5, 2, 0, 0, 0, 0) := rfl
theorem e67_60i (a0 a1 a2 a3 : Option Value) (y : Int32) (o : Option Value) (x : Int32) (ls : mL) (st : List Value) (σ : mS) : ev 67 60 (a0 :: a1 :: a2 :: a3 :: some (.int y) :: o :: ls) (.int x :: st) σ = ev 67 62 (a0 :: a1 :: a2 :: a3 :: some (.int y) :: some (.int x) :: ls) st σ := e_istore0 k67_60 (Nat.le_add_left 6 ls.length)
theorem e67_60n (a0 a1 a2 a3 : Option Value) (o : Option Value) (x : Int32) (ls : mL) (st : List Value) (σ : mS) : ev 67 60 (a0 :: a1 :: a2 :: a3 :: none :: o :: ls) (.int x :: st) σ = ev 67 62 (a0 :: a1 :: a2 :: a3 :: none :: some (.int x) :: ls) st σ := e_istore0 k67_60 (Nat.le_add_left 6 ls.length)
theorem e67_60r (a0 a1 a2 a3 : Option Value) (y : Nat) (o : Option Value) (x : Int32) (ls : mL) (st : List Value) (σ : mS) : ev 67 60 (a0 :: a1 :: a2 :: a3 :: some (.ref y) :: o :: ls) (.int x :: st) σ = ev 67 62 (a0 :: a1 :: a2 :: a3 :: some (.ref y) :: some (.int x) :: ls) st σ := e_istore0 k67_60 (Nat.le_add_left 6 ls.length)
theorem k67_62 : cod 67 62 = some (.iconst 0, 1, 0, 0, 0, 0) := rfl
theorem e67_62 (ls : mL) (st : List Value) (σ : mS) : ev 67 62 ls st σ = ev 67 63 ls (.int 0 :: st) σ := e_iconst 0 k67_62 (by decide)
theorem k67_63 : cod 67 63 = some (.istore 6, 2, 0, 0, 0, 0) := rfl
theorem e67_63i (a0 a1 a2 a3 a4 : Option Value) (y : Int32) (o : Option Value) (x : Int32) (ls : mL) (st : List Value) (σ : mS) : ev 67 63 (a0 :: a1 :: a2 :: a3 :: a4 :: some (.int y) :: o :: ls) (.int x :: st) σ = ev 67 65 (a0 :: a1 :: a2 :: a3 :: a4 :: some (.int y) :: some (.int x) :: ls) st σ := e_istore0 k67_63 (Nat.le_add_left 7 ls.length)
theorem e67_63n (a0 a1 a2 a3 a4 : Option Value) (o : Option Value) (x : Int32) (ls : mL) (st : List Value) (σ : mS) : ev 67 63 (a0 :: a1 :: a2 :: a3 :: a4 :: none :: o :: ls) (.int x :: st) σ = ev 67 65 (a0 :: a1 :: a2 :: a3 :: a4 :: none :: some (.int x) :: ls) st σ := e_istore0 k67_63 (Nat.le_add_left 7 ls.length)
theorem e67_63r (a0 a1 a2 a3 a4 : Option Value) (y : Nat) (o : Option Value) (x : Int32) (ls : mL) (st : List Value) (σ : mS) : ev 67 63 (a0 :: a1 :: a2 :: a3 :: a4 :: some (.ref y) :: o :: ls) (.int x :: st) σ = ev 67 65 (a0 :: a1 :: a2 :: a3 :: a4 :: some (.ref y) :: some (.int x) :: ls) st σ := e_istore0 k67_63 (Nat.le_add_left 7 ls.length)
theorem k67_65 : cod 67 65 = some (.iload 6, 2, 0, 0, 0, 0) := rfl
theorem e67_65 (a0 a1 a2 a3 a4 a5 : Option Value) (x : Int32) (ls : mL) (st : List Value) (σ : mS) : ev 67 65 (a0 :: a1 :: a2 :: a3 :: a4 :: a5 :: some (.int x) :: ls) st σ = ev 67 67 (a0 :: a1 :: a2 :: a3 :: a4 :: a5 :: some (.int x) :: ls) (.int x :: st) σ := e_iload0 k67_65 rfl
theorem k67_67 : cod 67 67 = some (.bipush (16), 2, 0, 0, 0, 0) := rfl
theorem e67_67 (ls : mL) (st : List Value) (σ : mS) : ev 67 67 ls st σ = ev 67 69 ls (.int 16 :: st) σ := e_bipush 16 k67_67 (by decide)
theorem k67_69 : cod 67 69 = some (.if_icmp .ge (57), 3, 126, 0, 0, 0) := rfl
theorem e67_69 (x y : Int32) (ls : mL) (st : List Value) (σ : mS) : ev 67 69 ls (.int y :: .int x :: st) σ = if y ≤ x then ev 67 126 ls st σ else ev 67 72 ls st σ := e_ic_ge k67_69
theorem k67_72 : cod 67 72 = some (.iload 6, 2, 0, 0, 0, 0) := rfl
theorem e67_72 (a0 a1 a2 a3 a4 a5 : Option Value) (x : Int32) (ls : mL) (st : List Value) (σ : mS) : ev 67 72 (a0 :: a1 :: a2 :: a3 :: a4 :: a5 :: some (.int x) :: ls) st σ = ev 67 74 (a0 :: a1 :: a2 :: a3 :: a4 :: a5 :: some (.int x) :: ls) (.int x :: st) σ := e_iload0 k67_72 rfl
theorem k67_74 : cod 67 74 = some (.aload_n 2, 1, 0, 0, 0, 0) := rfl
theorem e67_74 (a0 a1 : Option Value) (x : Nat) (ls : mL) (st : List Value) (σ : mS) : ev 67 74 (a0 :: a1 :: some (.ref x) :: ls) st σ = ev 67 75 (a0 :: a1 :: some (.ref x) :: ls) (.ref x :: st) σ := e_aload1 k67_74 rfl
theorem k67_75 : cod 67 75 = some (.arraylength, 1, 0, 0, 0, 0) := rfl
theorem e67_75 (t : Nat) (ls : mL) (st : List Value) (σ : mS) : ev 67 75 ls (.ref t :: st) σ = lnK (σ.1 t) (fun v => ev 67 76 ls (.int v :: st) σ) := e_alenK k67_75
theorem k67_76 : cod 67 76 = some (.if_icmp .ge (50), 3, 126, 0, 0, 0) := rfl
theorem e67_76 (x y : Int32) (ls : mL) (st : List Value) (σ : mS) : ev 67 76 ls (.int y :: .int x :: st) σ = if y ≤ x then ev 67 126 ls st σ else ev 67 79 ls st σ := e_ic_ge k67_76
theorem k67_79 : cod 67 79 = some (.aload_n 0, 1, 0, 0, 0, 0) := rfl
theorem e67_79 (x : Nat) (ls : mL) (st : List Value) (σ : mS) : ev 67 79 (some (.ref x) :: ls) st σ = ev 67 80 (some (.ref x) :: ls) (.ref x :: st) σ := e_aload1 k67_79 rfl
theorem k67_80 : cod 67 80 = some (.getfield 107, 3, 6, 11, 0, 0) := rfl
theorem e67_80 (t : Nat) (ls : mL) (st : List Value) (σ : mS) : ev 67 80 ls (.ref t :: st) σ = gfK (σ.1 t) 6 11 (fun v => ev 67 83 ls (v :: st) σ) := e_getf k67_80
theorem k67_83 : cod 67 83 = some (.iload_n 3, 1, 0, 0, 0, 0) := rfl
theorem e67_83 (a0 a1 a2 : Option Value) (x : Int32) (ls : mL) (st : List Value) (σ : mS) : ev 67 83 (a0 :: a1 :: a2 :: some (.int x) :: ls) st σ = ev 67 84 (a0 :: a1 :: a2 :: some (.int x) :: ls) (.int x :: st) σ := e_iload1 k67_83 rfl
theorem k67_84 : cod 67 84 = some (.iconst (-1), 1, 0, 0, 0, 0) := rfl
theorem e67_84 (ls : mL) (st : List Value) (σ : mS) : ev 67 84 ls st σ = ev 67 85 ls (.int (-1) :: st) σ := e_iconst (-1) k67_84 (by decide)
theorem k67_85 : cod 67 85 = some (.ixor, 1, 0, 0, 0, 0) := rfl
theorem e67_85 (x y : Int32) (ls : mL) (st : List Value) (σ : mS) : ev 67 85 ls (.int y :: .int x :: st) σ = ev 67 86 ls (.int (x ^^^ y) :: st) σ := e_ixor k67_85
theorem k67_86 : cod 67 86 = some (.iand, 1, 0, 0, 0, 0) := rfl
theorem e67_86 (x y : Int32) (ls : mL) (st : List Value) (σ : mS) : ev 67 86 ls (.int y :: .int x :: st) σ = ev 67 87 ls (.int (x &&& y) :: st) σ := e_iand k67_86
theorem k67_87 : cod 67 87 = some (.iload 6, 2, 0, 0, 0, 0) := rfl
theorem e67_87 (a0 a1 a2 a3 a4 a5 : Option Value) (x : Int32) (ls : mL) (st : List Value) (σ : mS) : ev 67 87 (a0 :: a1 :: a2 :: a3 :: a4 :: a5 :: some (.int x) :: ls) st σ = ev 67 89 (a0 :: a1 :: a2 :: a3 :: a4 :: a5 :: some (.int x) :: ls) (.int x :: st) σ := e_iload0 k67_87 rfl
theorem k67_89 : cod 67 89 = some (.invokestatic 74, 3, 84, 2, 1, 0) := rfl
theorem e67_89 (x0 : Int32) (x1 : Int32) (ls : mL) (st : List Value) (σ : mS) (hm : mCat st ≤ 8) : ev 67 89 ls (.int x1 :: .int x0 :: st) σ = (evM 84 [.int x0, .int x1] σ).bind fun z => ev 67 92 ls (z.1.toList ++ st) z.2 := e_callS k67_89 (by decide) rfl ⟨hm, Nat.le_of_ble_eq_true rfl⟩
theorem k67_92 : cod 67 92 = some (.ifCond .eq (28), 3, 120, 0, 0, 0) := rfl
theorem e67_92 (x : Int32) (ls : mL) (st : List Value) (σ : mS) : ev 67 92 ls (.int x :: st) σ = if x = 0 then ev 67 120 ls st σ else ev 67 95 ls st σ := e_if_eq k67_92
theorem k67_95 : cod 67 95 = some (.aload_n 0, 1, 0, 0, 0, 0) := rfl
theorem e67_95 (x : Nat) (ls : mL) (st : List Value) (σ : mS) : ev 67 95 (some (.ref x) :: ls) st σ = ev 67 96 (some (.ref x) :: ls) (.ref x :: st) σ := e_aload1 k67_95 rfl
theorem k67_96 : cod 67 96 = some (.iload 6, 2, 0, 0, 0, 0) := rfl
theorem e67_96 (a0 a1 a2 a3 a4 a5 : Option Value) (x : Int32) (ls : mL) (st : List Value) (σ : mS) : ev 67 96 (a0 :: a1 :: a2 :: a3 :: a4 :: a5 :: some (.int x) :: ls) st σ = ev 67 98 (a0 :: a1 :: a2 :: a3 :: a4 :: a5 :: some (.int x) :: ls) (.int x :: st) σ := e_iload0 k67_96 rfl
theorem k67_98 : cod 67 98 = some (.iload_n 3, 1, 0, 0, 0, 0) := rfl
theorem e67_98 (a0 a1 a2 : Option Value) (x : Int32) (ls : mL) (st : List Value) (σ : mS) : ev 67 98 (a0 :: a1 :: a2 :: some (.int x) :: ls) st σ = ev 67 99 (a0 :: a1 :: a2 :: some (.int x) :: ls) (.int x :: st) σ := e_iload1 k67_98 rfl
theorem k67_99 : cod 67 99 = some (.invokevirtual 113, 3, 61, 2, 0, 6) := rfl
theorem e67_99 (t : Nat) (x0 : Int32) (x1 : Int32) (ls : mL) (st : List Value) (σ : mS) (hm : mCat st ≤ 8) : ev 67 99 ls (.int x1 :: .int x0 :: .ref t :: st) σ = isC (σ.1 t) 6 ((evM 61 [.ref t, .int x0, .int x1] σ).bind fun z => ev 67 102 ls (z.1.toList ++ st) z.2) := e_callVK k67_99 (by decide) rfl ⟨hm, Nat.le_of_ble_eq_true rfl⟩
theorem k67_102 : cod 67 102 = some (.ifCond .eq (18), 3, 120, 0, 0, 0) := rfl
theorem e67_102 (x : Int32) (ls : mL) (st : List Value) (σ : mS) : ev 67 102 ls (.int x :: st) σ = if x = 0 then ev 67 120 ls st σ else ev 67 105 ls st σ := e_if_eq k67_102
theorem k67_105 : cod 67 105 = some (.aload_n 2, 1, 0, 0, 0, 0) := rfl
theorem e67_105 (a0 a1 : Option Value) (x : Nat) (ls : mL) (st : List Value) (σ : mS) : ev 67 105 (a0 :: a1 :: some (.ref x) :: ls) st σ = ev 67 106 (a0 :: a1 :: some (.ref x) :: ls) (.ref x :: st) σ := e_aload1 k67_105 rfl
theorem k67_106 : cod 67 106 = some (.iload 6, 2, 0, 0, 0, 0) := rfl
theorem e67_106 (a0 a1 a2 a3 a4 a5 : Option Value) (x : Int32) (ls : mL) (st : List Value) (σ : mS) : ev 67 106 (a0 :: a1 :: a2 :: a3 :: a4 :: a5 :: some (.int x) :: ls) st σ = ev 67 108 (a0 :: a1 :: a2 :: a3 :: a4 :: a5 :: some (.int x) :: ls) (.int x :: st) σ := e_iload0 k67_106 rfl
theorem k67_108 : cod 67 108 = some (.iload 4, 2, 0, 0, 0, 0) := rfl
theorem e67_108 (a0 a1 a2 a3 : Option Value) (x : Int32) (ls : mL) (st : List Value) (σ : mS) : ev 67 108 (a0 :: a1 :: a2 :: a3 :: some (.int x) :: ls) st σ = ev 67 110 (a0 :: a1 :: a2 :: a3 :: some (.int x) :: ls) (.int x :: st) σ := e_iload0 k67_108 rfl
theorem k67_110 : cod 67 110 = some (.iastore, 1, 0, 0, 0, 0) := rfl
theorem e67_110 (j x : Int32) (t : Nat) (ls : mL) (st : List Value) (σ : mS) : ev 67 110 ls (.int x :: .int j :: .ref t :: st) σ = asK (σ.1 t) 0 j x (fun e => ev 67 111 ls st (mset σ t e)) := e_iast k67_110
theorem k67_111 : cod 67 111 = some (.iload 5, 2, 0, 0, 0, 0) := rfl
theorem e67_111 (a0 a1 a2 a3 a4 : Option Value) (x : Int32) (ls : mL) (st : List Value) (σ : mS) : ev 67 111 (a0 :: a1 :: a2 :: a3 :: a4 :: some (.int x) :: ls) st σ = ev 67 113 (a0 :: a1 :: a2 :: a3 :: a4 :: some (.int x) :: ls) (.int x :: st) σ := e_iload0 k67_111 rfl
theorem k67_113 : cod 67 113 = some (.iconst 1, 1, 0, 0, 0, 0) := rfl
theorem e67_113 (ls : mL) (st : List Value) (σ : mS) : ev 67 113 ls st σ = ev 67 114 ls (.int 1 :: st) σ := e_iconst 1 k67_113 (by decide)
theorem k67_114 : cod 67 114 = some (.iload 6, 2, 0, 0, 0, 0) := rfl
theorem e67_114 (a0 a1 a2 a3 a4 a5 : Option Value) (x : Int32) (ls : mL) (st : List Value) (σ : mS) : ev 67 114 (a0 :: a1 :: a2 :: a3 :: a4 :: a5 :: some (.int x) :: ls) st σ = ev 67 116 (a0 :: a1 :: a2 :: a3 :: a4 :: a5 :: some (.int x) :: ls) (.int x :: st) σ := e_iload0 k67_114 rfl
theorem k67_116 : cod 67 116 = some (.ishl, 1, 0, 0, 0, 0) := rfl
theorem e67_116 (x y : Int32) (ls : mL) (st : List Value) (σ : mS) : ev 67 116 ls (.int y :: .int x :: st) σ = ev 67 117 ls (.int (x <<< (y &&& 31)) :: st) σ := e_ishl k67_116
theorem k67_117 : cod 67 117 = some (.ior, 1, 0, 0, 0, 0) := rfl
theorem e67_117 (x y : Int32) (ls : mL) (st : List Value) (σ : mS) : ev 67 117 ls (.int y :: .int x :: st) σ = ev 67 118 ls (.int (x ||| y) :: st) σ := e_ior k67_117
theorem k67_118 : cod 67 118 = some (.istore 5, 2, 0, 0, 0, 0) := rfl
theorem e67_118i (a0 a1 a2 a3 : Option Value) (y : Int32) (o : Option Value) (x : Int32) (ls : mL) (st : List Value) (σ : mS) : ev 67 118 (a0 :: a1 :: a2 :: a3 :: some (.int y) :: o :: ls) (.int x :: st) σ = ev 67 120 (a0 :: a1 :: a2 :: a3 :: some (.int y) :: some (.int x) :: ls) st σ := e_istore0 k67_118 (Nat.le_add_left 6 ls.length)
theorem e67_118n (a0 a1 a2 a3 : Option Value) (o : Option Value) (x : Int32) (ls : mL) (st : List Value) (σ : mS) : ev 67 118 (a0 :: a1 :: a2 :: a3 :: none :: o :: ls) (.int x :: st) σ = ev 67 120 (a0 :: a1 :: a2 :: a3 :: none :: some (.int x) :: ls) st σ := e_istore0 k67_118 (Nat.le_add_left 6 ls.length)
theorem e67_118r (a0 a1 a2 a3 : Option Value) (y : Nat) (o : Option Value) (x : Int32) (ls : mL) (st : List Value) (σ : mS) : ev 67 118 (a0 :: a1 :: a2 :: a3 :: some (.ref y) :: o :: ls) (.int x :: st) σ = ev 67 120 (a0 :: a1 :: a2 :: a3 :: some (.ref y) :: some (.int x) :: ls) st σ := e_istore0 k67_118 (Nat.le_add_left 6 ls.length)
theorem k67_120 : cod 67 120 = some (.iinc 6 (1), 3, 0, 0, 0, 0) := rfl
theorem e67_120i (a0 a1 a2 a3 a4 : Option Value) (y : Int32) (x : Int32) (ls : mL) (st : List Value) (σ : mS) : ev 67 120 (a0 :: a1 :: a2 :: a3 :: a4 :: some (.int y) :: some (.int x) :: ls) st σ = ev 67 123 (a0 :: a1 :: a2 :: a3 :: a4 :: some (.int y) :: some (.int (x + 1)) :: ls) st σ := e_iinc 1 k67_120 (by decide) rfl
theorem e67_120n (a0 a1 a2 a3 a4 : Option Value) (x : Int32) (ls : mL) (st : List Value) (σ : mS) : ev 67 120 (a0 :: a1 :: a2 :: a3 :: a4 :: none :: some (.int x) :: ls) st σ = ev 67 123 (a0 :: a1 :: a2 :: a3 :: a4 :: none :: some (.int (x + 1)) :: ls) st σ := e_iinc 1 k67_120 (by decide) rfl
theorem e67_120r (a0 a1 a2 a3 a4 : Option Value) (y : Nat) (x : Int32) (ls : mL) (st : List Value) (σ : mS) : ev 67 120 (a0 :: a1 :: a2 :: a3 :: a4 :: some (.ref y) :: some (.int x) :: ls) st σ = ev 67 123 (a0 :: a1 :: a2 :: a3 :: a4 :: some (.ref y) :: some (.int (x + 1)) :: ls) st σ := e_iinc 1 k67_120 (by decide) rfl
theorem k67_123 : cod 67 123 = some (.goto (-58), 3, 65, 0, 0, 0) := rfl
theorem e67_123 (ls : mL) (st : List Value) (σ : mS) : ev 67 123 ls st σ = ev 67 65 ls st σ := e_goto k67_123
theorem k67_126 : cod 67 126 = some (.iload_n 3, 1, 0, 0, 0, 0) := rfl
theorem e67_126 (a0 a1 a2 : Option Value) (x : Int32) (ls : mL) (st : List Value) (σ : mS) : ev 67 126 (a0 :: a1 :: a2 :: some (.int x) :: ls) st σ = ev 67 127 (a0 :: a1 :: a2 :: some (.int x) :: ls) (.int x :: st) σ := e_iload1 k67_126 rfl
theorem k67_127 : cod 67 127 = some (.iload 5, 2, 0, 0, 0, 0) := rfl
theorem e67_127 (a0 a1 a2 a3 a4 : Option Value) (x : Int32) (ls : mL) (st : List Value) (σ : mS) : ev 67 127 (a0 :: a1 :: a2 :: a3 :: a4 :: some (.int x) :: ls) st σ = ev 67 129 (a0 :: a1 :: a2 :: a3 :: a4 :: some (.int x) :: ls) (.int x :: st) σ := e_iload0 k67_127 rfl
theorem k67_129 : cod 67 129 = some (.ior, 1, 0, 0, 0, 0) := rfl
theorem e67_129 (x y : Int32) (ls : mL) (st : List Value) (σ : mS) : ev 67 129 ls (.int y :: .int x :: st) σ = ev 67 130 ls (.int (x ||| y) :: st) σ := e_ior k67_129
theorem k67_130 : cod 67 130 = some (.istore_n 3, 1, 0, 0, 0, 0) := rfl
theorem e67_130i (a0 a1 : Option Value) (y : Int32) (o : Option Value) (x : Int32) (ls : mL) (st : List Value) (σ : mS) : ev 67 130 (a0 :: a1 :: some (.int y) :: o :: ls) (.int x :: st) σ = ev 67 131 (a0 :: a1 :: some (.int y) :: some (.int x) :: ls) st σ := e_istore1 k67_130 (Nat.le_add_left 4 ls.length)
theorem e67_130n (a0 a1 : Option Value) (o : Option Value) (x : Int32) (ls : mL) (st : List Value) (σ : mS) : ev 67 130 (a0 :: a1 :: none :: o :: ls) (.int x :: st) σ = ev 67 131 (a0 :: a1 :: none :: some (.int x) :: ls) st σ := e_istore1 k67_130 (Nat.le_add_left 4 ls.length)
theorem e67_130r (a0 a1 : Option Value) (y : Nat) (o : Option Value) (x : Int32) (ls : mL) (st : List Value) (σ : mS) : ev 67 130 (a0 :: a1 :: some (.ref y) :: o :: ls) (.int x :: st) σ = ev 67 131 (a0 :: a1 :: some (.ref y) :: some (.int x) :: ls) st σ := e_istore1 k67_130 (Nat.le_add_left 4 ls.length)
theorem k67_131 : cod 67 131 = some (.iinc 4 (1), 3, 0, 0, 0, 0) := rfl
theorem e67_131i (a0 a1 a2 : Option Value) (y : Int32) (x : Int32) (ls : mL) (st : List Value) (σ : mS) : ev 67 131 (a0 :: a1 :: a2 :: some (.int y) :: some (.int x) :: ls) st σ = ev 67 134 (a0 :: a1 :: a2 :: some (.int y) :: some (.int (x + 1)) :: ls) st σ := e_iinc 1 k67_131 (by decide) rfl
theorem e67_131n (a0 a1 a2 : Option Value) (x : Int32) (ls : mL) (st : List Value) (σ : mS) : ev 67 131 (a0 :: a1 :: a2 :: none :: some (.int x) :: ls) st σ = ev 67 134 (a0 :: a1 :: a2 :: none :: some (.int (x + 1)) :: ls) st σ := e_iinc 1 k67_131 (by decide) rfl
theorem e67_131r (a0 a1 a2 : Option Value) (y : Nat) (x : Int32) (ls : mL) (st : List Value) (σ : mS) : ev 67 131 (a0 :: a1 :: a2 :: some (.ref y) :: some (.int x) :: ls) st σ = ev 67 134 (a0 :: a1 :: a2 :: some (.ref y) :: some (.int (x + 1)) :: ls) st σ := e_iinc 1 k67_131 (by decide) rfl
theorem k67_134 : cod 67 134 = some (.goto (-82), 3, 52, 0, 0, 0) := rfl
theorem e67_134 (ls : mL) (st : List Value) (σ : mS) : ev 67 134 ls st σ = ev 67 52 ls st σ := e_goto k67_134
theorem k67_137 : cod 67 137 = some (.return_, 1, 0, 0, 0, 0) := rfl
theorem e67_137 (ls : mL) (σ : mS) : ev 67 137 ls [] σ = some (none, σ) := e_vret k67_137 rfl
theorem m67 (t : Nat) (x0 : Int32) (x1 : Nat) (σ : mS) : evM 67 [.ref t, .int x0, .ref x1] σ = ev 67 0 [some (.ref t), some (.int x0), some (.ref x1), none, none, none, none] [] σ := rfl
theorem k68_0 : cod 68 0 = some (.iconst 0, 1, 0, 0, 0, 0) := rfl
theorem e68_0 (ls : mL) (st : List Value) (σ : mS) : ev 68 0 ls st σ = ev 68 1 ls (.int 0 :: st) σ := e_iconst 0 k68_0 (by decide)
theorem k68_1 : cod 68 1 = some (.istore_n 3, 1, 0, 0, 0, 0) := rfl
theorem e68_1i (a0 a1 : Option Value) (y : Int32) (o : Option Value) (x : Int32) (ls : mL) (st : List Value) (σ : mS) : ev 68 1 (a0 :: a1 :: some (.int y) :: o :: ls) (.int x :: st) σ = ev 68 2 (a0 :: a1 :: some (.int y) :: some (.int x) :: ls) st σ := e_istore1 k68_1 (Nat.le_add_left 4 ls.length)
theorem e68_1n (a0 a1 : Option Value) (o : Option Value) (x : Int32) (ls : mL) (st : List Value) (σ : mS) : ev 68 1 (a0 :: a1 :: none :: o :: ls) (.int x :: st) σ = ev 68 2 (a0 :: a1 :: none :: some (.int x) :: ls) st σ := e_istore1 k68_1 (Nat.le_add_left 4 ls.length)
theorem e68_1r (a0 a1 : Option Value) (y : Nat) (o : Option Value) (x : Int32) (ls : mL) (st : List Value) (σ : mS) : ev 68 1 (a0 :: a1 :: some (.ref y) :: o :: ls) (.int x :: st) σ = ev 68 2 (a0 :: a1 :: some (.ref y) :: some (.int x) :: ls) st σ := e_istore1 k68_1 (Nat.le_add_left 4 ls.length)
theorem k68_2 : cod 68 2 = some (.iconst 0, 1, 0, 0, 0, 0) := rfl
theorem e68_2 (ls : mL) (st : List Value) (σ : mS) : ev 68 2 ls st σ = ev 68 3 ls (.int 0 :: st) σ := e_iconst 0 k68_2 (by decide)
theorem k68_3 : cod 68 3 = some (.istore 4, 2, 0, 0, 0, 0) := rfl
theorem e68_3i (a0 a1 a2 : Option Value) (y : Int32) (o : Option Value) (x : Int32) (ls : mL) (st : List Value) (σ : mS) : ev 68 3 (a0 :: a1 :: a2 :: some (.int y) :: o :: ls) (.int x :: st) σ = ev 68 5 (a0 :: a1 :: a2 :: some (.int y) :: some (.int x) :: ls) st σ := e_istore0 k68_3 (Nat.le_add_left 5 ls.length)
theorem e68_3n (a0 a1 a2 : Option Value) (o : Option Value) (x : Int32) (ls : mL) (st : List Value) (σ : mS) : ev 68 3 (a0 :: a1 :: a2 :: none :: o :: ls) (.int x :: st) σ = ev 68 5 (a0 :: a1 :: a2 :: none :: some (.int x) :: ls) st σ := e_istore0 k68_3 (Nat.le_add_left 5 ls.length)
theorem e68_3r (a0 a1 a2 : Option Value) (y : Nat) (o : Option Value) (x : Int32) (ls : mL) (st : List Value) (σ : mS) : ev 68 3 (a0 :: a1 :: a2 :: some (.ref y) :: o :: ls) (.int x :: st) σ = ev 68 5 (a0 :: a1 :: a2 :: some (.ref y) :: some (.int x) :: ls) st σ := e_istore0 k68_3 (Nat.le_add_left 5 ls.length)
theorem k68_5 : cod 68 5 = some (.iload 4, 2, 0, 0, 0, 0) := rfl
theorem e68_5 (a0 a1 a2 a3 : Option Value) (x : Int32) (ls : mL) (st : List Value) (σ : mS) : ev 68 5 (a0 :: a1 :: a2 :: a3 :: some (.int x) :: ls) st σ = ev 68 7 (a0 :: a1 :: a2 :: a3 :: some (.int x) :: ls) (.int x :: st) σ := e_iload0 k68_5 rfl
theorem k68_7 : cod 68 7 = some (.bipush (16), 2, 0, 0, 0, 0) := rfl
theorem e68_7 (ls : mL) (st : List Value) (σ : mS) : ev 68 7 ls st σ = ev 68 9 ls (.int 16 :: st) σ := e_bipush 16 k68_7 (by decide)
theorem k68_9 : cod 68 9 = some (.if_icmp .ge (28), 3, 37, 0, 0, 0) := rfl
theorem e68_9 (x y : Int32) (ls : mL) (st : List Value) (σ : mS) : ev 68 9 ls (.int y :: .int x :: st) σ = if y ≤ x then ev 68 37 ls st σ else ev 68 12 ls st σ := e_ic_ge k68_9
theorem k68_12 : cod 68 12 = some (.iload_n 1, 1, 0, 0, 0, 0) := rfl
theorem e68_12 (a0 : Option Value) (x : Int32) (ls : mL) (st : List Value) (σ : mS) : ev 68 12 (a0 :: some (.int x) :: ls) st σ = ev 68 13 (a0 :: some (.int x) :: ls) (.int x :: st) σ := e_iload1 k68_12 rfl
theorem k68_13 : cod 68 13 = some (.iload 4, 2, 0, 0, 0, 0) := rfl
theorem e68_13 (a0 a1 a2 a3 : Option Value) (x : Int32) (ls : mL) (st : List Value) (σ : mS) : ev 68 13 (a0 :: a1 :: a2 :: a3 :: some (.int x) :: ls) st σ = ev 68 15 (a0 :: a1 :: a2 :: a3 :: some (.int x) :: ls) (.int x :: st) σ := e_iload0 k68_13 rfl
theorem k68_15 : cod 68 15 = some (.invokestatic 74, 3, 84, 2, 1, 0) := rfl
theorem e68_15 (x0 : Int32) (x1 : Int32) (ls : mL) (st : List Value) (σ : mS) (hm : mCat st ≤ 8) : ev 68 15 ls (.int x1 :: .int x0 :: st) σ = (evM 84 [.int x0, .int x1] σ).bind fun z => ev 68 18 ls (z.1.toList ++ st) z.2 := e_callS k68_15 (by decide) rfl ⟨hm, Nat.le_of_ble_eq_true rfl⟩
theorem k68_18 : cod 68 18 = some (.ifCond .eq (13), 3, 31, 0, 0, 0) := rfl
theorem e68_18 (x : Int32) (ls : mL) (st : List Value) (σ : mS) : ev 68 18 ls (.int x :: st) σ = if x = 0 then ev 68 31 ls st σ else ev 68 21 ls st σ := e_if_eq k68_18
theorem k68_21 : cod 68 21 = some (.iload_n 3, 1, 0, 0, 0, 0) := rfl
theorem e68_21 (a0 a1 a2 : Option Value) (x : Int32) (ls : mL) (st : List Value) (σ : mS) : ev 68 21 (a0 :: a1 :: a2 :: some (.int x) :: ls) st σ = ev 68 22 (a0 :: a1 :: a2 :: some (.int x) :: ls) (.int x :: st) σ := e_iload1 k68_21 rfl
theorem k68_22 : cod 68 22 = some (.aload_n 0, 1, 0, 0, 0, 0) := rfl
theorem e68_22 (x : Nat) (ls : mL) (st : List Value) (σ : mS) : ev 68 22 (some (.ref x) :: ls) st σ = ev 68 23 (some (.ref x) :: ls) (.ref x :: st) σ := e_aload1 k68_22 rfl
theorem k68_23 : cod 68 23 = some (.iload 4, 2, 0, 0, 0, 0) := rfl
theorem e68_23 (a0 a1 a2 a3 : Option Value) (x : Int32) (ls : mL) (st : List Value) (σ : mS) : ev 68 23 (a0 :: a1 :: a2 :: a3 :: some (.int x) :: ls) st σ = ev 68 25 (a0 :: a1 :: a2 :: a3 :: some (.int x) :: ls) (.int x :: st) σ := e_iload0 k68_23 rfl
theorem k68_25 : cod 68 25 = some (.iload_n 2, 1, 0, 0, 0, 0) := rfl
theorem e68_25 (a0 a1 : Option Value) (x : Int32) (ls : mL) (st : List Value) (σ : mS) : ev 68 25 (a0 :: a1 :: some (.int x) :: ls) st σ = ev 68 26 (a0 :: a1 :: some (.int x) :: ls) (.int x :: st) σ := e_iload1 k68_25 rfl
theorem k68_26 : cod 68 26 = some (.invokevirtual 92, 3, 64, 2, 0, 6) := rfl
theorem e68_26 (t : Nat) (x0 : Int32) (x1 : Int32) (ls : mL) (st : List Value) (σ : mS) (hm : mCat st ≤ 8) : ev 68 26 ls (.int x1 :: .int x0 :: .ref t :: st) σ = isC (σ.1 t) 6 ((evM 64 [.ref t, .int x0, .int x1] σ).bind fun z => ev 68 29 ls (z.1.toList ++ st) z.2) := e_callVK k68_26 (by decide) rfl ⟨hm, Nat.le_of_ble_eq_true rfl⟩
theorem k68_29 : cod 68 29 = some (.ior, 1, 0, 0, 0, 0) := rfl
theorem e68_29 (x y : Int32) (ls : mL) (st : List Value) (σ : mS) : ev 68 29 ls (.int y :: .int x :: st) σ = ev 68 30 ls (.int (x ||| y) :: st) σ := e_ior k68_29
theorem k68_30 : cod 68 30 = some (.istore_n 3, 1, 0, 0, 0, 0) := rfl
theorem e68_30i (a0 a1 : Option Value) (y : Int32) (o : Option Value) (x : Int32) (ls : mL) (st : List Value) (σ : mS) : ev 68 30 (a0 :: a1 :: some (.int y) :: o :: ls) (.int x :: st) σ = ev 68 31 (a0 :: a1 :: some (.int y) :: some (.int x) :: ls) st σ := e_istore1 k68_30 (Nat.le_add_left 4 ls.length)
theorem e68_30n (a0 a1 : Option Value) (o : Option Value) (x : Int32) (ls : mL) (st : List Value) (σ : mS) : ev 68 30 (a0 :: a1 :: none :: o :: ls) (.int x :: st) σ = ev 68 31 (a0 :: a1 :: none :: some (.int x) :: ls) st σ := e_istore1 k68_30 (Nat.le_add_left 4 ls.length)
theorem e68_30r (a0 a1 : Option Value) (y : Nat) (o : Option Value) (x : Int32) (ls : mL) (st : List Value) (σ : mS) : ev 68 30 (a0 :: a1 :: some (.ref y) :: o :: ls) (.int x :: st) σ = ev 68 31 (a0 :: a1 :: some (.ref y) :: some (.int x) :: ls) st σ := e_istore1 k68_30 (Nat.le_add_left 4 ls.length)
theorem k68_31 : cod 68 31 = some (.iinc 4 (1), 3, 0, 0, 0, 0) := rfl
theorem e68_31i (a0 a1 a2 : Option Value) (y : Int32) (x : Int32) (ls : mL) (st : List Value) (σ : mS) : ev 68 31 (a0 :: a1 :: a2 :: some (.int y) :: some (.int x) :: ls) st σ = ev 68 34 (a0 :: a1 :: a2 :: some (.int y) :: some (.int (x + 1)) :: ls) st σ := e_iinc 1 k68_31 (by decide) rfl
theorem e68_31n (a0 a1 a2 : Option Value) (x : Int32) (ls : mL) (st : List Value) (σ : mS) : ev 68 31 (a0 :: a1 :: a2 :: none :: some (.int x) :: ls) st σ = ev 68 34 (a0 :: a1 :: a2 :: none :: some (.int (x + 1)) :: ls) st σ := e_iinc 1 k68_31 (by decide) rfl
theorem e68_31r (a0 a1 a2 : Option Value) (y : Nat) (x : Int32) (ls : mL) (st : List Value) (σ : mS) : ev 68 31 (a0 :: a1 :: a2 :: some (.ref y) :: some (.int x) :: ls) st σ = ev 68 34 (a0 :: a1 :: a2 :: some (.ref y) :: some (.int (x + 1)) :: ls) st σ := e_iinc 1 k68_31 (by decide) rfl
theorem k68_34 : cod 68 34 = some (.goto (-29), 3, 5, 0, 0, 0) := rfl
theorem e68_34 (ls : mL) (st : List Value) (σ : mS) : ev 68 34 ls st σ = ev 68 5 ls st σ := e_goto k68_34
theorem k68_37 : cod 68 37 = some (.iload_n 3, 1, 0, 0, 0, 0) := rfl
theorem e68_37 (a0 a1 a2 : Option Value) (x : Int32) (ls : mL) (st : List Value) (σ : mS) : ev 68 37 (a0 :: a1 :: a2 :: some (.int x) :: ls) st σ = ev 68 38 (a0 :: a1 :: a2 :: some (.int x) :: ls) (.int x :: st) σ := e_iload1 k68_37 rfl
theorem k68_38 : cod 68 38 = some (.ireturn, 1, 0, 0, 0, 0) := rfl
theorem e68_38 (x : Int32) (ls : mL) (σ : mS) : ev 68 38 ls [.int x] σ = some (some (.int x), σ) := e_iret k68_38 rfl
theorem m68 (t : Nat) (x0 : Int32) (x1 : Int32) (σ : mS) : evM 68 [.ref t, .int x0, .int x1] σ = ev 68 0 [some (.ref t), some (.int x0), some (.int x1), none, none] [] σ := rfl
theorem k69_0 : cod 69 0 = some (.iconst 0, 1, 0, 0, 0, 0) := rfl
theorem e69_0 (ls : mL) (st : List Value) (σ : mS) : ev 69 0 ls st σ = ev 69 1 ls (.int 0 :: st) σ := e_iconst 0 k69_0 (by decide)
theorem k69_1 : cod 69 1 = some (.istore_n 1, 1, 0, 0, 0, 0) := rfl
theorem e69_1i (y : Int32) (o : Option Value) (x : Int32) (ls : mL) (st : List Value) (σ : mS) : ev 69 1 (some (.int y) :: o :: ls) (.int x :: st) σ = ev 69 2 (some (.int y) :: some (.int x) :: ls) st σ := e_istore1 k69_1 (Nat.le_add_left 2 ls.length)
theorem e69_1n (o : Option Value) (x : Int32) (ls : mL) (st : List Value) (σ : mS) : ev 69 1 (none :: o :: ls) (.int x :: st) σ = ev 69 2 (none :: some (.int x) :: ls) st σ := e_istore1 k69_1 (Nat.le_add_left 2 ls.length)
theorem e69_1r (y : Nat) (o : Option Value) (x : Int32) (ls : mL) (st : List Value) (σ : mS) : ev 69 1 (some (.ref y) :: o :: ls) (.int x :: st) σ = ev 69 2 (some (.ref y) :: some (.int x) :: ls) st σ := e_istore1 k69_1 (Nat.le_add_left 2 ls.length)
theorem k69_2 : cod 69 2 = some (.iload_n 1, 1, 0, 0, 0, 0) := rfl
theorem e69_2 (a0 : Option Value) (x : Int32) (ls : mL) (st : List Value) (σ : mS) : ev 69 2 (a0 :: some (.int x) :: ls) st σ = ev 69 3 (a0 :: some (.int x) :: ls) (.int x :: st) σ := e_iload1 k69_2 rfl
theorem k69_3 : cod 69 3 = some (.sipush (128), 3, 0, 0, 0, 0) := rfl
theorem e69_3 (ls : mL) (st : List Value) (σ : mS) : ev 69 3 ls st σ = ev 69 6 ls (.int 128 :: st) σ := e_sipush 128 k69_3 (by decide)
theorem k69_6 : cod 69 6 = some (.if_icmp .ge (23), 3, 29, 0, 0, 0) := rfl
theorem e69_6 (x y : Int32) (ls : mL) (st : List Value) (σ : mS) : ev 69 6 ls (.int y :: .int x :: st) σ = if y ≤ x then ev 69 29 ls st σ else ev 69 9 ls st σ := e_ic_ge k69_6
theorem k69_9 : cod 69 9 = some (.aload_n 0, 1, 0, 0, 0, 0) := rfl
theorem e69_9 (x : Nat) (ls : mL) (st : List Value) (σ : mS) : ev 69 9 (some (.ref x) :: ls) st σ = ev 69 10 (some (.ref x) :: ls) (.ref x :: st) σ := e_aload1 k69_9 rfl
theorem k69_10 : cod 69 10 = some (.getfield 9, 3, 6, 0, 0, 3) := rfl
theorem e69_10 (t : Nat) (ls : mL) (st : List Value) (σ : mS) : ev 69 10 ls (.ref t :: st) σ = gfK (σ.1 t) 6 0 (fun v => ev 69 13 ls (v :: st) σ) := e_getf k69_10
theorem k69_13 : cod 69 13 = some (.iload_n 1, 1, 0, 0, 0, 0) := rfl
theorem e69_13 (a0 : Option Value) (x : Int32) (ls : mL) (st : List Value) (σ : mS) : ev 69 13 (a0 :: some (.int x) :: ls) st σ = ev 69 14 (a0 :: some (.int x) :: ls) (.int x :: st) σ := e_iload1 k69_13 rfl
theorem k69_14 : cod 69 14 = some (.iconst 0, 1, 0, 0, 0, 0) := rfl
theorem e69_14 (ls : mL) (st : List Value) (σ : mS) : ev 69 14 ls st σ = ev 69 15 ls (.int 0 :: st) σ := e_iconst 0 k69_14 (by decide)
theorem k69_15 : cod 69 15 = some (.iastore, 1, 0, 0, 0, 0) := rfl
theorem e69_15 (j x : Int32) (t : Nat) (ls : mL) (st : List Value) (σ : mS) : ev 69 15 ls (.int x :: .int j :: .ref t :: st) σ = asK (σ.1 t) 0 j x (fun e => ev 69 16 ls st (mset σ t e)) := e_iast k69_15
theorem k69_16 : cod 69 16 = some (.aload_n 0, 1, 0, 0, 0, 0) := rfl
theorem e69_16 (x : Nat) (ls : mL) (st : List Value) (σ : mS) : ev 69 16 (some (.ref x) :: ls) st σ = ev 69 17 (some (.ref x) :: ls) (.ref x :: st) σ := e_aload1 k69_16 rfl
theorem k69_17 : cod 69 17 = some (.getfield 15, 3, 6, 1, 0, 3) := rfl
theorem e69_17 (t : Nat) (ls : mL) (st : List Value) (σ : mS) : ev 69 17 ls (.ref t :: st) σ = gfK (σ.1 t) 6 1 (fun v => ev 69 20 ls (v :: st) σ) := e_getf k69_17
theorem k69_20 : cod 69 20 = some (.iload_n 1, 1, 0, 0, 0, 0) := rfl
theorem e69_20 (a0 : Option Value) (x : Int32) (ls : mL) (st : List Value) (σ : mS) : ev 69 20 (a0 :: some (.int x) :: ls) st σ = ev 69 21 (a0 :: some (.int x) :: ls) (.int x :: st) σ := e_iload1 k69_20 rfl
theorem k69_21 : cod 69 21 = some (.iconst 0, 1, 0, 0, 0, 0) := rfl
theorem e69_21 (ls : mL) (st : List Value) (σ : mS) : ev 69 21 ls st σ = ev 69 22 ls (.int 0 :: st) σ := e_iconst 0 k69_21 (by decide)
theorem k69_22 : cod 69 22 = some (.iastore, 1, 0, 0, 0, 0) := rfl
theorem e69_22 (j x : Int32) (t : Nat) (ls : mL) (st : List Value) (σ : mS) : ev 69 22 ls (.int x :: .int j :: .ref t :: st) σ = asK (σ.1 t) 0 j x (fun e => ev 69 23 ls st (mset σ t e)) := e_iast k69_22
theorem k69_23 : cod 69 23 = some (.iinc 1 (1), 3, 0, 0, 0, 0) := rfl
theorem e69_23i (y : Int32) (x : Int32) (ls : mL) (st : List Value) (σ : mS) : ev 69 23 (some (.int y) :: some (.int x) :: ls) st σ = ev 69 26 (some (.int y) :: some (.int (x + 1)) :: ls) st σ := e_iinc 1 k69_23 (by decide) rfl
theorem e69_23n (x : Int32) (ls : mL) (st : List Value) (σ : mS) : ev 69 23 (none :: some (.int x) :: ls) st σ = ev 69 26 (none :: some (.int (x + 1)) :: ls) st σ := e_iinc 1 k69_23 (by decide) rfl
theorem e69_23r (y : Nat) (x : Int32) (ls : mL) (st : List Value) (σ : mS) : ev 69 23 (some (.ref y) :: some (.int x) :: ls) st σ = ev 69 26 (some (.ref y) :: some (.int (x + 1)) :: ls) st σ := e_iinc 1 k69_23 (by decide) rfl
theorem k69_26 : cod 69 26 = some (.goto (-24), 3, 2, 0, 0, 0) := rfl
theorem e69_26 (ls : mL) (st : List Value) (σ : mS) : ev 69 26 ls st σ = ev 69 2 ls st σ := e_goto k69_26
theorem k69_29 : cod 69 29 = some (.aload_n 0, 1, 0, 0, 0, 0) := rfl
theorem e69_29 (x : Nat) (ls : mL) (st : List Value) (σ : mS) : ev 69 29 (some (.ref x) :: ls) st σ = ev 69 30 (some (.ref x) :: ls) (.ref x :: st) σ := e_aload1 k69_29 rfl
theorem k69_30 : cod 69 30 = some (.iconst 0, 1, 0, 0, 0, 0) := rfl
theorem e69_30 (ls : mL) (st : List Value) (σ : mS) : ev 69 30 ls st σ = ev 69 31 ls (.int 0 :: st) σ := e_iconst 0 k69_30 (by decide)
theorem k69_31 : cod 69 31 = some (.putfield 46, 3, 6, 5, 0, 0) := rfl
theorem e69_31 (x : Int32) (t : Nat) (ls : mL) (st : List Value) (σ : mS) : ev 69 31 ls (.int x :: .ref t :: st) σ = pfK (σ.1 t) 6 5 (.int x) (fun e => ev 69 34 ls st (mset σ t e)) := e_putI k69_31
theorem k69_34 : cod 69 34 = some (.aload_n 0, 1, 0, 0, 0, 0) := rfl
theorem e69_34 (x : Nat) (ls : mL) (st : List Value) (σ : mS) : ev 69 34 (some (.ref x) :: ls) st σ = ev 69 35 (some (.ref x) :: ls) (.ref x :: st) σ := e_aload1 k69_34 rfl
theorem k69_35 : cod 69 35 = some (.iconst 0, 1, 0, 0, 0, 0) := rfl
theorem e69_35 (ls : mL) (st : List Value) (σ : mS) : ev 69 35 ls st σ = ev 69 36 ls (.int 0 :: st) σ := e_iconst 0 k69_35 (by decide)
theorem k69_36 : cod 69 36 = some (.putfield 50, 3, 6, 6, 0, 0) := rfl
theorem e69_36 (x : Int32) (t : Nat) (ls : mL) (st : List Value) (σ : mS) : ev 69 36 ls (.int x :: .ref t :: st) σ = pfK (σ.1 t) 6 6 (.int x) (fun e => ev 69 39 ls st (mset σ t e)) := e_putI k69_36
theorem k69_39 : cod 69 39 = some (.aload_n 0, 1, 0, 0, 0, 0) := rfl
theorem e69_39 (x : Nat) (ls : mL) (st : List Value) (σ : mS) : ev 69 39 (some (.ref x) :: ls) st σ = ev 69 40 (some (.ref x) :: ls) (.ref x :: st) σ := e_aload1 k69_39 rfl
theorem k69_40 : cod 69 40 = some (.iconst 0, 1, 0, 0, 0, 0) := rfl
theorem e69_40 (ls : mL) (st : List Value) (σ : mS) : ev 69 40 ls st σ = ev 69 41 ls (.int 0 :: st) σ := e_iconst 0 k69_40 (by decide)
theorem k69_41 : cod 69 41 = some (.putfield 53, 3, 6, 7, 0, 0) := rfl
theorem e69_41 (x : Int32) (t : Nat) (ls : mL) (st : List Value) (σ : mS) : ev 69 41 ls (.int x :: .ref t :: st) σ = pfK (σ.1 t) 6 7 (.int x) (fun e => ev 69 44 ls st (mset σ t e)) := e_putI k69_41
theorem k69_44 : cod 69 44 = some (.aload_n 0, 1, 0, 0, 0, 0) := rfl
theorem e69_44 (x : Nat) (ls : mL) (st : List Value) (σ : mS) : ev 69 44 (some (.ref x) :: ls) st σ = ev 69 45 (some (.ref x) :: ls) (.ref x :: st) σ := e_aload1 k69_44 rfl
theorem k69_45 : cod 69 45 = some (.iconst 0, 1, 0, 0, 0, 0) := rfl
theorem e69_45 (ls : mL) (st : List Value) (σ : mS) : ev 69 45 ls st σ = ev 69 46 ls (.int 0 :: st) σ := e_iconst 0 k69_45 (by decide)
theorem k69_46 : cod 69 46 = some (.putfield 56, 3, 6, 8, 0, 0) := rfl
theorem e69_46 (x : Int32) (t : Nat) (ls : mL) (st : List Value) (σ : mS) : ev 69 46 ls (.int x :: .ref t :: st) σ = pfK (σ.1 t) 6 8 (.int x) (fun e => ev 69 49 ls st (mset σ t e)) := e_putI k69_46
theorem k69_49 : cod 69 49 = some (.aload_n 0, 1, 0, 0, 0, 0) := rfl
theorem e69_49 (x : Nat) (ls : mL) (st : List Value) (σ : mS) : ev 69 49 (some (.ref x) :: ls) st σ = ev 69 50 (some (.ref x) :: ls) (.ref x :: st) σ := e_aload1 k69_49 rfl
theorem k69_50 : cod 69 50 = some (.iconst 0, 1, 0, 0, 0, 0) := rfl
theorem e69_50 (ls : mL) (st : List Value) (σ : mS) : ev 69 50 ls st σ = ev 69 51 ls (.int 0 :: st) σ := e_iconst 0 k69_50 (by decide)
theorem k69_51 : cod 69 51 = some (.putfield 59, 3, 6, 9, 0, 0) := rfl
theorem e69_51 (x : Int32) (t : Nat) (ls : mL) (st : List Value) (σ : mS) : ev 69 51 ls (.int x :: .ref t :: st) σ = pfK (σ.1 t) 6 9 (.int x) (fun e => ev 69 54 ls st (mset σ t e)) := e_putI k69_51
theorem k69_54 : cod 69 54 = some (.return_, 1, 0, 0, 0, 0) := rfl
theorem e69_54 (ls : mL) (σ : mS) : ev 69 54 ls [] σ = some (none, σ) := e_vret k69_54 rfl
theorem m69 (t : Nat) (σ : mS) : evM 69 [.ref t] σ = ev 69 0 [some (.ref t), none] [] σ := rfl
theorem k70_0 : cod 70 0 = some (.iload_n 1, 1, 0, 0, 0, 0) := rfl
theorem e70_0 (a0 : Option Value) (x : Int32) (ls : mL) (st : List Value) (σ : mS) : ev 70 0 (a0 :: some (.int x) :: ls) st σ = ev 70 1 (a0 :: some (.int x) :: ls) (.int x :: st) σ := e_iload1 k70_0 rfl
theorem k70_1 : cod 70 1 = some (.iload_n 2, 1, 0, 0, 0, 0) := rfl
theorem e70_1 (a0 a1 : Option Value) (x : Int32) (ls : mL) (st : List Value) (σ : mS) : ev 70 1 (a0 :: a1 :: some (.int x) :: ls) st σ = ev 70 2 (a0 :: a1 :: some (.int x) :: ls) (.int x :: st) σ := e_iload1 k70_1 rfl
theorem k70_2 : cod 70 2 = some (.invokestatic 62, 3, 63, 2, 0, 0) := rfl
theorem e70_2 (x0 : Int32) (x1 : Int32) (ls : mL) (st : List Value) (σ : mS) (hm : mCat st ≤ 8) : ev 70 2 ls (.int x1 :: .int x0 :: st) σ = (evM 63 [.int x0, .int x1] σ).bind fun z => ev 70 5 ls (z.1.toList ++ st) z.2 := e_callS k70_2 (by decide) rfl ⟨hm, Nat.le_of_ble_eq_true rfl⟩
theorem k70_5 : cod 70 5 = some (.istore 4, 2, 0, 0, 0, 0) := rfl
theorem e70_5i (a0 a1 a2 : Option Value) (y : Int32) (o : Option Value) (x : Int32) (ls : mL) (st : List Value) (σ : mS) : ev 70 5 (a0 :: a1 :: a2 :: some (.int y) :: o :: ls) (.int x :: st) σ = ev 70 7 (a0 :: a1 :: a2 :: some (.int y) :: some (.int x) :: ls) st σ := e_istore0 k70_5 (Nat.le_add_left 5 ls.length)
theorem e70_5n (a0 a1 a2 : Option Value) (o : Option Value) (x : Int32) (ls : mL) (st : List Value) (σ : mS) : ev 70 5 (a0 :: a1 :: a2 :: none :: o :: ls) (.int x :: st) σ = ev 70 7 (a0 :: a1 :: a2 :: none :: some (.int x) :: ls) st σ := e_istore0 k70_5 (Nat.le_add_left 5 ls.length)
theorem e70_5r (a0 a1 a2 : Option Value) (y : Nat) (o : Option Value) (x : Int32) (ls : mL) (st : List Value) (σ : mS) : ev 70 5 (a0 :: a1 :: a2 :: some (.ref y) :: o :: ls) (.int x :: st) σ = ev 70 7 (a0 :: a1 :: a2 :: some (.ref y) :: some (.int x) :: ls) st σ := e_istore0 k70_5 (Nat.le_add_left 5 ls.length)
theorem k70_7 : cod 70 7 = some (.iload 4, 2, 0, 0, 0, 0) := rfl
theorem e70_7 (a0 a1 a2 a3 : Option Value) (x : Int32) (ls : mL) (st : List Value) (σ : mS) : ev 70 7 (a0 :: a1 :: a2 :: a3 :: some (.int x) :: ls) st σ = ev 70 9 (a0 :: a1 :: a2 :: a3 :: some (.int x) :: ls) (.int x :: st) σ := e_iload0 k70_7 rfl
theorem k70_9 : cod 70 9 = some (.ifCond .lt (39), 3, 48, 0, 0, 0) := rfl
theorem e70_9 (x : Int32) (ls : mL) (st : List Value) (σ : mS) : ev 70 9 ls (.int x :: st) σ = if x < 0 then ev 70 48 ls st σ else ev 70 12 ls st σ := e_if_lt k70_9
theorem k70_12 : cod 70 12 = some (.iload_n 3, 1, 0, 0, 0, 0) := rfl
theorem e70_12 (a0 a1 a2 : Option Value) (x : Int32) (ls : mL) (st : List Value) (σ : mS) : ev 70 12 (a0 :: a1 :: a2 :: some (.int x) :: ls) st σ = ev 70 13 (a0 :: a1 :: a2 :: some (.int x) :: ls) (.int x :: st) σ := e_iload1 k70_12 rfl
theorem k70_13 : cod 70 13 = some (.invokestatic 66, 3, 85, 1, 1, 0) := rfl
theorem e70_13 (x0 : Int32) (ls : mL) (st : List Value) (σ : mS) (hm : mCat st ≤ 8) : ev 70 13 ls (.int x0 :: st) σ = (evM 85 [.int x0] σ).bind fun z => ev 70 16 ls (z.1.toList ++ st) z.2 := e_callS k70_13 (by decide) rfl ⟨hm, Nat.le_of_ble_eq_true rfl⟩
theorem k70_16 : cod 70 16 = some (.ifCond .eq (32), 3, 48, 0, 0, 0) := rfl
theorem e70_16 (x : Int32) (ls : mL) (st : List Value) (σ : mS) : ev 70 16 ls (.int x :: st) σ = if x = 0 then ev 70 48 ls st σ else ev 70 19 ls st σ := e_if_eq k70_16
theorem k70_19 : cod 70 19 = some (.aload_n 0, 1, 0, 0, 0, 0) := rfl
theorem e70_19 (x : Nat) (ls : mL) (st : List Value) (σ : mS) : ev 70 19 (some (.ref x) :: ls) st σ = ev 70 20 (some (.ref x) :: ls) (.ref x :: st) σ := e_aload1 k70_19 rfl
theorem k70_20 : cod 70 20 = some (.getfield 9, 3, 6, 0, 0, 3) := rfl
theorem e70_20 (t : Nat) (ls : mL) (st : List Value) (σ : mS) : ev 70 20 ls (.ref t :: st) σ = gfK (σ.1 t) 6 0 (fun v => ev 70 23 ls (v :: st) σ) := e_getf k70_20
theorem k70_23 : cod 70 23 = some (.iload 4, 2, 0, 0, 0, 0) := rfl
theorem e70_23 (a0 a1 a2 a3 : Option Value) (x : Int32) (ls : mL) (st : List Value) (σ : mS) : ev 70 23 (a0 :: a1 :: a2 :: a3 :: some (.int x) :: ls) st σ = ev 70 25 (a0 :: a1 :: a2 :: a3 :: some (.int x) :: ls) (.int x :: st) σ := e_iload0 k70_23 rfl
theorem k70_25 : cod 70 25 = some (.iaload, 1, 0, 0, 0, 0) := rfl
theorem e70_25 (j : Int32) (t : Nat) (ls : mL) (st : List Value) (σ : mS) : ev 70 25 ls (.int j :: .ref t :: st) σ = alK (σ.1 t) 0 j (fun v => ev 70 26 ls (.int v :: st) σ) := e_iald k70_25
theorem k70_26 : cod 70 26 = some (.iconst 0, 1, 0, 0, 0, 0) := rfl
theorem e70_26 (ls : mL) (st : List Value) (σ : mS) : ev 70 26 ls st σ = ev 70 27 ls (.int 0 :: st) σ := e_iconst 0 k70_26 (by decide)
theorem k70_27 : cod 70 27 = some (.iconst 3, 1, 0, 0, 0, 0) := rfl
theorem e70_27 (ls : mL) (st : List Value) (σ : mS) : ev 70 27 ls st σ = ev 70 28 ls (.int 3 :: st) σ := e_iconst 3 k70_27 (by decide)
theorem k70_28 : cod 70 28 = some (.invokestatic 70, 3, 87, 3, 1, 0) := rfl
theorem e70_28 (x0 : Int32) (x1 : Int32) (x2 : Int32) (ls : mL) (st : List Value) (σ : mS) (hm : mCat st ≤ 8) : ev 70 28 ls (.int x2 :: .int x1 :: .int x0 :: st) σ = (evM 87 [.int x0, .int x1, .int x2] σ).bind fun z => ev 70 31 ls (z.1.toList ++ st) z.2 := e_callS k70_28 (by decide) rfl ⟨hm, Nat.le_of_ble_eq_true rfl⟩
theorem k70_31 : cod 70 31 = some (.ifCond .eq (17), 3, 48, 0, 0, 0) := rfl
theorem e70_31 (x : Int32) (ls : mL) (st : List Value) (σ : mS) : ev 70 31 ls (.int x :: st) σ = if x = 0 then ev 70 48 ls st σ else ev 70 34 ls st σ := e_if_eq k70_31
theorem k70_34 : cod 70 34 = some (.aload_n 0, 1, 0, 0, 0, 0) := rfl
theorem e70_34 (x : Nat) (ls : mL) (st : List Value) (σ : mS) : ev 70 34 (some (.ref x) :: ls) st σ = ev 70 35 (some (.ref x) :: ls) (.ref x :: st) σ := e_aload1 k70_34 rfl
theorem k70_35 : cod 70 35 = some (.getfield 15, 3, 6, 1, 0, 3) := rfl
theorem e70_35 (t : Nat) (ls : mL) (st : List Value) (σ : mS) : ev 70 35 ls (.ref t :: st) σ = gfK (σ.1 t) 6 1 (fun v => ev 70 38 ls (v :: st) σ) := e_getf k70_35
theorem k70_38 : cod 70 38 = some (.iload 4, 2, 0, 0, 0, 0) := rfl
theorem e70_38 (a0 a1 a2 a3 : Option Value) (x : Int32) (ls : mL) (st : List Value) (σ : mS) : ev 70 38 (a0 :: a1 :: a2 :: a3 :: some (.int x) :: ls) st σ = ev 70 40 (a0 :: a1 :: a2 :: a3 :: some (.int x) :: ls) (.int x :: st) σ := e_iload0 k70_38 rfl
theorem k70_40 : cod 70 40 = some (.iaload, 1, 0, 0, 0, 0) := rfl
theorem e70_40 (j : Int32) (t : Nat) (ls : mL) (st : List Value) (σ : mS) : ev 70 40 ls (.int j :: .ref t :: st) σ = alK (σ.1 t) 0 j (fun v => ev 70 41 ls (.int v :: st) σ) := e_iald k70_40
theorem k70_41 : cod 70 41 = some (.iload_n 3, 1, 0, 0, 0, 0) := rfl
theorem e70_41 (a0 a1 a2 : Option Value) (x : Int32) (ls : mL) (st : List Value) (σ : mS) : ev 70 41 (a0 :: a1 :: a2 :: some (.int x) :: ls) st σ = ev 70 42 (a0 :: a1 :: a2 :: some (.int x) :: ls) (.int x :: st) σ := e_iload1 k70_41 rfl
theorem k70_42 : cod 70 42 = some (.invokestatic 74, 3, 84, 2, 1, 0) := rfl
theorem e70_42 (x0 : Int32) (x1 : Int32) (ls : mL) (st : List Value) (σ : mS) (hm : mCat st ≤ 8) : ev 70 42 ls (.int x1 :: .int x0 :: st) σ = (evM 84 [.int x0, .int x1] σ).bind fun z => ev 70 45 ls (z.1.toList ++ st) z.2 := e_callS k70_42 (by decide) rfl ⟨hm, Nat.le_of_ble_eq_true rfl⟩
theorem k70_45 : cod 70 45 = some (.ifCond .eq (5), 3, 50, 0, 0, 0) := rfl
theorem e70_45 (x : Int32) (ls : mL) (st : List Value) (σ : mS) : ev 70 45 ls (.int x :: st) σ = if x = 0 then ev 70 50 ls st σ else ev 70 48 ls st σ := e_if_eq k70_45
theorem k70_48 : cod 70 48 = some (.iconst 0, 1, 0, 0, 0, 0) := rfl
theorem e70_48 (ls : mL) (st : List Value) (σ : mS) : ev 70 48 ls st σ = ev 70 49 ls (.int 0 :: st) σ := e_iconst 0 k70_48 (by decide)
theorem k70_49 : cod 70 49 = some (.ireturn, 1, 0, 0, 0, 0) := rfl
theorem e70_49 (x : Int32) (ls : mL) (σ : mS) : ev 70 49 ls [.int x] σ = if x = 0 ∨ x = 1 then some (some (.int x), σ) else none := e_zret k70_49 rfl
theorem e70_49b0 (ls : mL) (σ : mS) : ev 70 49 ls [.int 0] σ = some (some (.int 0), σ) := (e_zret k70_49 rfl).trans (if_pos (Or.inl rfl))
theorem e70_49b1 (ls : mL) (σ : mS) : ev 70 49 ls [.int 1] σ = some (some (.int 1), σ) := (e_zret k70_49 rfl).trans (if_pos (Or.inr rfl))
theorem k70_50 : cod 70 50 = some (.aload_n 0, 1, 0, 0, 0, 0) := rfl
theorem e70_50 (x : Nat) (ls : mL) (st : List Value) (σ : mS) : ev 70 50 (some (.ref x) :: ls) st σ = ev 70 51 (some (.ref x) :: ls) (.ref x :: st) σ := e_aload1 k70_50 rfl
theorem k70_51 : cod 70 51 = some (.getfield 18, 3, 6, 2, 0, 3) := rfl
theorem e70_51 (t : Nat) (ls : mL) (st : List Value) (σ : mS) : ev 70 51 ls (.ref t :: st) σ = gfK (σ.1 t) 6 2 (fun v => ev 70 54 ls (v :: st) σ) := e_getf k70_51
theorem k70_54 : cod 70 54 = some (.iload 4, 2, 0, 0, 0, 0) := rfl
theorem e70_54 (a0 a1 a2 a3 : Option Value) (x : Int32) (ls : mL) (st : List Value) (σ : mS) : ev 70 54 (a0 :: a1 :: a2 :: a3 :: some (.int x) :: ls) st σ = ev 70 56 (a0 :: a1 :: a2 :: a3 :: some (.int x) :: ls) (.int x :: st) σ := e_iload0 k70_54 rfl
theorem k70_56 : cod 70 56 = some (.iconst 4, 1, 0, 0, 0, 0) := rfl
theorem e70_56 (ls : mL) (st : List Value) (σ : mS) : ev 70 56 ls st σ = ev 70 57 ls (.int 4 :: st) σ := e_iconst 4 k70_56 (by decide)
theorem k70_57 : cod 70 57 = some (.imul, 1, 0, 0, 0, 0) := rfl
theorem e70_57 (x y : Int32) (ls : mL) (st : List Value) (σ : mS) : ev 70 57 ls (.int y :: .int x :: st) σ = ev 70 58 ls (.int (x * y) :: st) σ := e_imul k70_57
theorem k70_58 : cod 70 58 = some (.aload_n 0, 1, 0, 0, 0, 0) := rfl
theorem e70_58 (x : Nat) (ls : mL) (st : List Value) (σ : mS) : ev 70 58 (some (.ref x) :: ls) st σ = ev 70 59 (some (.ref x) :: ls) (.ref x :: st) σ := e_aload1 k70_58 rfl
theorem k70_59 : cod 70 59 = some (.getfield 9, 3, 6, 0, 0, 3) := rfl
theorem e70_59 (t : Nat) (ls : mL) (st : List Value) (σ : mS) : ev 70 59 ls (.ref t :: st) σ = gfK (σ.1 t) 6 0 (fun v => ev 70 62 ls (v :: st) σ) := e_getf k70_59
theorem k70_62 : cod 70 62 = some (.iload 4, 2, 0, 0, 0, 0) := rfl
theorem e70_62 (a0 a1 a2 a3 : Option Value) (x : Int32) (ls : mL) (st : List Value) (σ : mS) : ev 70 62 (a0 :: a1 :: a2 :: a3 :: some (.int x) :: ls) st σ = ev 70 64 (a0 :: a1 :: a2 :: a3 :: some (.int x) :: ls) (.int x :: st) σ := e_iload0 k70_62 rfl
theorem k70_64 : cod 70 64 = some (.iaload, 1, 0, 0, 0, 0) := rfl
theorem e70_64 (j : Int32) (t : Nat) (ls : mL) (st : List Value) (σ : mS) : ev 70 64 ls (.int j :: .ref t :: st) σ = alK (σ.1 t) 0 j (fun v => ev 70 65 ls (.int v :: st) σ) := e_iald k70_64
theorem k70_65 : cod 70 65 = some (.iadd, 1, 0, 0, 0, 0) := rfl
theorem e70_65 (x y : Int32) (ls : mL) (st : List Value) (σ : mS) : ev 70 65 ls (.int y :: .int x :: st) σ = ev 70 66 ls (.int (x + y) :: st) σ := e_iadd k70_65
theorem k70_66 : cod 70 66 = some (.iload_n 3, 1, 0, 0, 0, 0) := rfl
theorem e70_66 (a0 a1 a2 : Option Value) (x : Int32) (ls : mL) (st : List Value) (σ : mS) : ev 70 66 (a0 :: a1 :: a2 :: some (.int x) :: ls) st σ = ev 70 67 (a0 :: a1 :: a2 :: some (.int x) :: ls) (.int x :: st) σ := e_iload1 k70_66 rfl
theorem k70_67 : cod 70 67 = some (.iastore, 1, 0, 0, 0, 0) := rfl
theorem e70_67 (j x : Int32) (t : Nat) (ls : mL) (st : List Value) (σ : mS) : ev 70 67 ls (.int x :: .int j :: .ref t :: st) σ = asK (σ.1 t) 0 j x (fun e => ev 70 68 ls st (mset σ t e)) := e_iast k70_67
theorem k70_68 : cod 70 68 = some (.aload_n 0, 1, 0, 0, 0, 0) := rfl
theorem e70_68 (x : Nat) (ls : mL) (st : List Value) (σ : mS) : ev 70 68 (some (.ref x) :: ls) st σ = ev 70 69 (some (.ref x) :: ls) (.ref x :: st) σ := e_aload1 k70_68 rfl
theorem k70_69 : cod 70 69 = some (.getfield 9, 3, 6, 0, 0, 3) := rfl
theorem e70_69 (t : Nat) (ls : mL) (st : List Value) (σ : mS) : ev 70 69 ls (.ref t :: st) σ = gfK (σ.1 t) 6 0 (fun v => ev 70 72 ls (v :: st) σ) := e_getf k70_69
theorem k70_72 : cod 70 72 = some (.iload 4, 2, 0, 0, 0, 0) := rfl
theorem e70_72 (a0 a1 a2 a3 : Option Value) (x : Int32) (ls : mL) (st : List Value) (σ : mS) : ev 70 72 (a0 :: a1 :: a2 :: a3 :: some (.int x) :: ls) st σ = ev 70 74 (a0 :: a1 :: a2 :: a3 :: some (.int x) :: ls) (.int x :: st) σ := e_iload0 k70_72 rfl
theorem k70_74 : cod 70 74 = some (.dup2, 1, 0, 0, 0, 0) := rfl
theorem e70_74 (x : Int32) (y : Nat) (ls : mL) (st : List Value) (σ : mS) : ev 70 74 ls (.int x :: .ref y :: st) σ = ev 70 75 ls (.int x :: .ref y :: .int x :: .ref y :: st) σ := e_dup2 k70_74
theorem k70_75 : cod 70 75 = some (.iaload, 1, 0, 0, 0, 0) := rfl
theorem e70_75 (j : Int32) (t : Nat) (ls : mL) (st : List Value) (σ : mS) : ev 70 75 ls (.int j :: .ref t :: st) σ = alK (σ.1 t) 0 j (fun v => ev 70 76 ls (.int v :: st) σ) := e_iald k70_75
theorem k70_76 : cod 70 76 = some (.iconst 1, 1, 0, 0, 0, 0) := rfl
theorem e70_76 (ls : mL) (st : List Value) (σ : mS) : ev 70 76 ls st σ = ev 70 77 ls (.int 1 :: st) σ := e_iconst 1 k70_76 (by decide)
theorem k70_77 : cod 70 77 = some (.iadd, 1, 0, 0, 0, 0) := rfl
theorem e70_77 (x y : Int32) (ls : mL) (st : List Value) (σ : mS) : ev 70 77 ls (.int y :: .int x :: st) σ = ev 70 78 ls (.int (x + y) :: st) σ := e_iadd k70_77
theorem k70_78 : cod 70 78 = some (.iastore, 1, 0, 0, 0, 0) := rfl
theorem e70_78 (j x : Int32) (t : Nat) (ls : mL) (st : List Value) (σ : mS) : ev 70 78 ls (.int x :: .int j :: .ref t :: st) σ = asK (σ.1 t) 0 j x (fun e => ev 70 79 ls st (mset σ t e)) := e_iast k70_78
theorem k70_79 : cod 70 79 = some (.aload_n 0, 1, 0, 0, 0, 0) := rfl
theorem e70_79 (x : Nat) (ls : mL) (st : List Value) (σ : mS) : ev 70 79 (some (.ref x) :: ls) st σ = ev 70 80 (some (.ref x) :: ls) (.ref x :: st) σ := e_aload1 k70_79 rfl
theorem k70_80 : cod 70 80 = some (.getfield 15, 3, 6, 1, 0, 3) := rfl
theorem e70_80 (t : Nat) (ls : mL) (st : List Value) (σ : mS) : ev 70 80 ls (.ref t :: st) σ = gfK (σ.1 t) 6 1 (fun v => ev 70 83 ls (v :: st) σ) := e_getf k70_80
theorem k70_83 : cod 70 83 = some (.iload 4, 2, 0, 0, 0, 0) := rfl
theorem e70_83 (a0 a1 a2 a3 : Option Value) (x : Int32) (ls : mL) (st : List Value) (σ : mS) : ev 70 83 (a0 :: a1 :: a2 :: a3 :: some (.int x) :: ls) st σ = ev 70 85 (a0 :: a1 :: a2 :: a3 :: some (.int x) :: ls) (.int x :: st) σ := e_iload0 k70_83 rfl
theorem k70_85 : cod 70 85 = some (.dup2, 1, 0, 0, 0, 0) := rfl
theorem e70_85 (x : Int32) (y : Nat) (ls : mL) (st : List Value) (σ : mS) : ev 70 85 ls (.int x :: .ref y :: st) σ = ev 70 86 ls (.int x :: .ref y :: .int x :: .ref y :: st) σ := e_dup2 k70_85
theorem k70_86 : cod 70 86 = some (.iaload, 1, 0, 0, 0, 0) := rfl
theorem e70_86 (j : Int32) (t : Nat) (ls : mL) (st : List Value) (σ : mS) : ev 70 86 ls (.int j :: .ref t :: st) σ = alK (σ.1 t) 0 j (fun v => ev 70 87 ls (.int v :: st) σ) := e_iald k70_86
theorem k70_87 : cod 70 87 = some (.iconst 1, 1, 0, 0, 0, 0) := rfl
theorem e70_87 (ls : mL) (st : List Value) (σ : mS) : ev 70 87 ls st σ = ev 70 88 ls (.int 1 :: st) σ := e_iconst 1 k70_87 (by decide)
theorem k70_88 : cod 70 88 = some (.iload_n 3, 1, 0, 0, 0, 0) := rfl
theorem e70_88 (a0 a1 a2 : Option Value) (x : Int32) (ls : mL) (st : List Value) (σ : mS) : ev 70 88 (a0 :: a1 :: a2 :: some (.int x) :: ls) st σ = ev 70 89 (a0 :: a1 :: a2 :: some (.int x) :: ls) (.int x :: st) σ := e_iload1 k70_88 rfl
theorem k70_89 : cod 70 89 = some (.ishl, 1, 0, 0, 0, 0) := rfl
theorem e70_89 (x y : Int32) (ls : mL) (st : List Value) (σ : mS) : ev 70 89 ls (.int y :: .int x :: st) σ = ev 70 90 ls (.int (x <<< (y &&& 31)) :: st) σ := e_ishl k70_89
theorem k70_90 : cod 70 90 = some (.ior, 1, 0, 0, 0, 0) := rfl
theorem e70_90 (x y : Int32) (ls : mL) (st : List Value) (σ : mS) : ev 70 90 ls (.int y :: .int x :: st) σ = ev 70 91 ls (.int (x ||| y) :: st) σ := e_ior k70_90
theorem k70_91 : cod 70 91 = some (.iastore, 1, 0, 0, 0, 0) := rfl
theorem e70_91 (j x : Int32) (t : Nat) (ls : mL) (st : List Value) (σ : mS) : ev 70 91 ls (.int x :: .int j :: .ref t :: st) σ = asK (σ.1 t) 0 j x (fun e => ev 70 92 ls st (mset σ t e)) := e_iast k70_91
theorem k70_92 : cod 70 92 = some (.iconst 1, 1, 0, 0, 0, 0) := rfl
theorem e70_92 (ls : mL) (st : List Value) (σ : mS) : ev 70 92 ls st σ = ev 70 93 ls (.int 1 :: st) σ := e_iconst 1 k70_92 (by decide)
theorem k70_93 : cod 70 93 = some (.ireturn, 1, 0, 0, 0, 0) := rfl
theorem e70_93 (x : Int32) (ls : mL) (σ : mS) : ev 70 93 ls [.int x] σ = if x = 0 ∨ x = 1 then some (some (.int x), σ) else none := e_zret k70_93 rfl
theorem e70_93b0 (ls : mL) (σ : mS) : ev 70 93 ls [.int 0] σ = some (some (.int 0), σ) := (e_zret k70_93 rfl).trans (if_pos (Or.inl rfl))
theorem e70_93b1 (ls : mL) (σ : mS) : ev 70 93 ls [.int 1] σ = some (some (.int 1), σ) := (e_zret k70_93 rfl).trans (if_pos (Or.inr rfl))
theorem m70 (t : Nat) (x0 : Int32) (x1 : Int32) (x2 : Int32) (σ : mS) : evM 70 [.ref t, .int x0, .int x1, .int x2] σ = ev 70 0 [some (.ref t), some (.int x0), some (.int x1), some (.int x2), none] [] σ := rfl
theorem k71_0 : cod 71 0 = some (.iload_n 2, 1, 0, 0, 0, 0) := rfl
theorem e71_0 (a0 a1 : Option Value) (x : Int32) (ls : mL) (st : List Value) (σ : mS) : ev 71 0 (a0 :: a1 :: some (.int x) :: ls) st σ = ev 71 1 (a0 :: a1 :: some (.int x) :: ls) (.int x :: st) σ := e_iload1 k71_0 rfl
theorem k71_1 : cod 71 1 = some (.invokestatic 66, 3, 85, 1, 1, 0) := rfl
theorem e71_1 (x0 : Int32) (ls : mL) (st : List Value) (σ : mS) (hm : mCat st ≤ 8) : ev 71 1 ls (.int x0 :: st) σ = (evM 85 [.int x0] σ).bind fun z => ev 71 4 ls (z.1.toList ++ st) z.2 := e_callS k71_1 (by decide) rfl ⟨hm, Nat.le_of_ble_eq_true rfl⟩
theorem k71_4 : cod 71 4 = some (.ifCond .eq (9), 3, 13, 0, 0, 0) := rfl
theorem e71_4 (x : Int32) (ls : mL) (st : List Value) (σ : mS) : ev 71 4 ls (.int x :: st) σ = if x = 0 then ev 71 13 ls st σ else ev 71 7 ls st σ := e_if_eq k71_4
theorem k71_7 : cod 71 7 = some (.iconst 1, 1, 0, 0, 0, 0) := rfl
theorem e71_7 (ls : mL) (st : List Value) (σ : mS) : ev 71 7 ls st σ = ev 71 8 ls (.int 1 :: st) σ := e_iconst 1 k71_7 (by decide)
theorem k71_8 : cod 71 8 = some (.iload_n 2, 1, 0, 0, 0, 0) := rfl
theorem e71_8 (a0 a1 : Option Value) (x : Int32) (ls : mL) (st : List Value) (σ : mS) : ev 71 8 (a0 :: a1 :: some (.int x) :: ls) st σ = ev 71 9 (a0 :: a1 :: some (.int x) :: ls) (.int x :: st) σ := e_iload1 k71_8 rfl
theorem k71_9 : cod 71 9 = some (.ishl, 1, 0, 0, 0, 0) := rfl
theorem e71_9 (x y : Int32) (ls : mL) (st : List Value) (σ : mS) : ev 71 9 ls (.int y :: .int x :: st) σ = ev 71 10 ls (.int (x <<< (y &&& 31)) :: st) σ := e_ishl k71_9
theorem k71_10 : cod 71 10 = some (.goto (4), 3, 14, 0, 0, 0) := rfl
theorem e71_10 (ls : mL) (st : List Value) (σ : mS) : ev 71 10 ls st σ = ev 71 14 ls st σ := e_goto k71_10
theorem k71_13 : cod 71 13 = some (.iconst 0, 1, 0, 0, 0, 0) := rfl
theorem e71_13 (ls : mL) (st : List Value) (σ : mS) : ev 71 13 ls st σ = ev 71 14 ls (.int 0 :: st) σ := e_iconst 0 k71_13 (by decide)
theorem k71_14 : cod 71 14 = some (.istore_n 3, 1, 0, 0, 0, 0) := rfl
theorem e71_14i (a0 a1 : Option Value) (y : Int32) (o : Option Value) (x : Int32) (ls : mL) (st : List Value) (σ : mS) : ev 71 14 (a0 :: a1 :: some (.int y) :: o :: ls) (.int x :: st) σ = ev 71 15 (a0 :: a1 :: some (.int y) :: some (.int x) :: ls) st σ := e_istore1 k71_14 (Nat.le_add_left 4 ls.length)
theorem e71_14n (a0 a1 : Option Value) (o : Option Value) (x : Int32) (ls : mL) (st : List Value) (σ : mS) : ev 71 14 (a0 :: a1 :: none :: o :: ls) (.int x :: st) σ = ev 71 15 (a0 :: a1 :: none :: some (.int x) :: ls) st σ := e_istore1 k71_14 (Nat.le_add_left 4 ls.length)
theorem e71_14r (a0 a1 : Option Value) (y : Nat) (o : Option Value) (x : Int32) (ls : mL) (st : List Value) (σ : mS) : ev 71 14 (a0 :: a1 :: some (.ref y) :: o :: ls) (.int x :: st) σ = ev 71 15 (a0 :: a1 :: some (.ref y) :: some (.int x) :: ls) st σ := e_istore1 k71_14 (Nat.le_add_left 4 ls.length)
theorem k71_15 : cod 71 15 = some (.iload_n 1, 1, 0, 0, 0, 0) := rfl
theorem e71_15 (a0 : Option Value) (x : Int32) (ls : mL) (st : List Value) (σ : mS) : ev 71 15 (a0 :: some (.int x) :: ls) st σ = ev 71 16 (a0 :: some (.int x) :: ls) (.int x :: st) σ := e_iload1 k71_15 rfl
theorem k71_16 : cod 71 16 = some (.iconst 3, 1, 0, 0, 0, 0) := rfl
theorem e71_16 (ls : mL) (st : List Value) (σ : mS) : ev 71 16 ls st σ = ev 71 17 ls (.int 3 :: st) σ := e_iconst 3 k71_16 (by decide)
theorem k71_17 : cod 71 17 = some (.if_icmp .ne (16), 3, 33, 0, 0, 0) := rfl
theorem e71_17 (x y : Int32) (ls : mL) (st : List Value) (σ : mS) : ev 71 17 ls (.int y :: .int x :: st) σ = if x = y then ev 71 20 ls st σ else ev 71 33 ls st σ := e_ic_ne k71_17
theorem k71_20 : cod 71 20 = some (.aload_n 0, 1, 0, 0, 0, 0) := rfl
theorem e71_20 (x : Nat) (ls : mL) (st : List Value) (σ : mS) : ev 71 20 (some (.ref x) :: ls) st σ = ev 71 21 (some (.ref x) :: ls) (.ref x :: st) σ := e_aload1 k71_20 rfl
theorem k71_21 : cod 71 21 = some (.dup, 1, 0, 0, 0, 0) := rfl
theorem e71_21i (x : Int32) (ls : mL) (st : List Value) (σ : mS) : ev 71 21 ls (.int x :: st) σ = ev 71 22 ls (.int x :: .int x :: st) σ := e_dupI k71_21
theorem e71_21r (x : Nat) (ls : mL) (st : List Value) (σ : mS) : ev 71 21 ls (.ref x :: st) σ = ev 71 22 ls (.ref x :: .ref x :: st) σ := e_dupR k71_21
theorem k71_22 : cod 71 22 = some (.getfield 53, 3, 6, 7, 0, 0) := rfl
theorem e71_22 (t : Nat) (ls : mL) (st : List Value) (σ : mS) : ev 71 22 ls (.ref t :: st) σ = gfK (σ.1 t) 6 7 (fun v => ev 71 25 ls (v :: st) σ) := e_getf k71_22
theorem k71_25 : cod 71 25 = some (.iload_n 3, 1, 0, 0, 0, 0) := rfl
theorem e71_25 (a0 a1 a2 : Option Value) (x : Int32) (ls : mL) (st : List Value) (σ : mS) : ev 71 25 (a0 :: a1 :: a2 :: some (.int x) :: ls) st σ = ev 71 26 (a0 :: a1 :: a2 :: some (.int x) :: ls) (.int x :: st) σ := e_iload1 k71_25 rfl
theorem k71_26 : cod 71 26 = some (.ior, 1, 0, 0, 0, 0) := rfl
theorem e71_26 (x y : Int32) (ls : mL) (st : List Value) (σ : mS) : ev 71 26 ls (.int y :: .int x :: st) σ = ev 71 27 ls (.int (x ||| y) :: st) σ := e_ior k71_26
theorem k71_27 : cod 71 27 = some (.putfield 53, 3, 6, 7, 0, 0) := rfl
theorem e71_27 (x : Int32) (t : Nat) (ls : mL) (st : List Value) (σ : mS) : ev 71 27 ls (.int x :: .ref t :: st) σ = pfK (σ.1 t) 6 7 (.int x) (fun e => ev 71 30 ls st (mset σ t e)) := e_putI k71_27
theorem k71_30 : cod 71 30 = some (.goto (31), 3, 61, 0, 0, 0) := rfl
theorem e71_30 (ls : mL) (st : List Value) (σ : mS) : ev 71 30 ls st σ = ev 71 61 ls st σ := e_goto k71_30
theorem k71_33 : cod 71 33 = some (.iload_n 1, 1, 0, 0, 0, 0) := rfl
theorem e71_33 (a0 : Option Value) (x : Int32) (ls : mL) (st : List Value) (σ : mS) : ev 71 33 (a0 :: some (.int x) :: ls) st σ = ev 71 34 (a0 :: some (.int x) :: ls) (.int x :: st) σ := e_iload1 k71_33 rfl
theorem k71_34 : cod 71 34 = some (.iconst 4, 1, 0, 0, 0, 0) := rfl
theorem e71_34 (ls : mL) (st : List Value) (σ : mS) : ev 71 34 ls st σ = ev 71 35 ls (.int 4 :: st) σ := e_iconst 4 k71_34 (by decide)
theorem k71_35 : cod 71 35 = some (.if_icmp .ne (16), 3, 51, 0, 0, 0) := rfl
theorem e71_35 (x y : Int32) (ls : mL) (st : List Value) (σ : mS) : ev 71 35 ls (.int y :: .int x :: st) σ = if x = y then ev 71 38 ls st σ else ev 71 51 ls st σ := e_ic_ne k71_35
theorem k71_38 : cod 71 38 = some (.aload_n 0, 1, 0, 0, 0, 0) := rfl
theorem e71_38 (x : Nat) (ls : mL) (st : List Value) (σ : mS) : ev 71 38 (some (.ref x) :: ls) st σ = ev 71 39 (some (.ref x) :: ls) (.ref x :: st) σ := e_aload1 k71_38 rfl
theorem k71_39 : cod 71 39 = some (.dup, 1, 0, 0, 0, 0) := rfl
theorem e71_39i (x : Int32) (ls : mL) (st : List Value) (σ : mS) : ev 71 39 ls (.int x :: st) σ = ev 71 40 ls (.int x :: .int x :: st) σ := e_dupI k71_39
theorem e71_39r (x : Nat) (ls : mL) (st : List Value) (σ : mS) : ev 71 39 ls (.ref x :: st) σ = ev 71 40 ls (.ref x :: .ref x :: st) σ := e_dupR k71_39
theorem k71_40 : cod 71 40 = some (.getfield 56, 3, 6, 8, 0, 0) := rfl
theorem e71_40 (t : Nat) (ls : mL) (st : List Value) (σ : mS) : ev 71 40 ls (.ref t :: st) σ = gfK (σ.1 t) 6 8 (fun v => ev 71 43 ls (v :: st) σ) := e_getf k71_40
theorem k71_43 : cod 71 43 = some (.iload_n 3, 1, 0, 0, 0, 0) := rfl
theorem e71_43 (a0 a1 a2 : Option Value) (x : Int32) (ls : mL) (st : List Value) (σ : mS) : ev 71 43 (a0 :: a1 :: a2 :: some (.int x) :: ls) st σ = ev 71 44 (a0 :: a1 :: a2 :: some (.int x) :: ls) (.int x :: st) σ := e_iload1 k71_43 rfl
theorem k71_44 : cod 71 44 = some (.ior, 1, 0, 0, 0, 0) := rfl
theorem e71_44 (x y : Int32) (ls : mL) (st : List Value) (σ : mS) : ev 71 44 ls (.int y :: .int x :: st) σ = ev 71 45 ls (.int (x ||| y) :: st) σ := e_ior k71_44
theorem k71_45 : cod 71 45 = some (.putfield 56, 3, 6, 8, 0, 0) := rfl
theorem e71_45 (x : Int32) (t : Nat) (ls : mL) (st : List Value) (σ : mS) : ev 71 45 ls (.int x :: .ref t :: st) σ = pfK (σ.1 t) 6 8 (.int x) (fun e => ev 71 48 ls st (mset σ t e)) := e_putI k71_45
theorem k71_48 : cod 71 48 = some (.goto (13), 3, 61, 0, 0, 0) := rfl
theorem e71_48 (ls : mL) (st : List Value) (σ : mS) : ev 71 48 ls st σ = ev 71 61 ls st σ := e_goto k71_48
theorem k71_51 : cod 71 51 = some (.aload_n 0, 1, 0, 0, 0, 0) := rfl
theorem e71_51 (x : Nat) (ls : mL) (st : List Value) (σ : mS) : ev 71 51 (some (.ref x) :: ls) st σ = ev 71 52 (some (.ref x) :: ls) (.ref x :: st) σ := e_aload1 k71_51 rfl
theorem k71_52 : cod 71 52 = some (.dup, 1, 0, 0, 0, 0) := rfl
theorem e71_52i (x : Int32) (ls : mL) (st : List Value) (σ : mS) : ev 71 52 ls (.int x :: st) σ = ev 71 53 ls (.int x :: .int x :: st) σ := e_dupI k71_52
theorem e71_52r (x : Nat) (ls : mL) (st : List Value) (σ : mS) : ev 71 52 ls (.ref x :: st) σ = ev 71 53 ls (.ref x :: .ref x :: st) σ := e_dupR k71_52
theorem k71_53 : cod 71 53 = some (.getfield 59, 3, 6, 9, 0, 0) := rfl
theorem e71_53 (t : Nat) (ls : mL) (st : List Value) (σ : mS) : ev 71 53 ls (.ref t :: st) σ = gfK (σ.1 t) 6 9 (fun v => ev 71 56 ls (v :: st) σ) := e_getf k71_53
theorem k71_56 : cod 71 56 = some (.iload_n 3, 1, 0, 0, 0, 0) := rfl
theorem e71_56 (a0 a1 a2 : Option Value) (x : Int32) (ls : mL) (st : List Value) (σ : mS) : ev 71 56 (a0 :: a1 :: a2 :: some (.int x) :: ls) st σ = ev 71 57 (a0 :: a1 :: a2 :: some (.int x) :: ls) (.int x :: st) σ := e_iload1 k71_56 rfl
theorem k71_57 : cod 71 57 = some (.ior, 1, 0, 0, 0, 0) := rfl
theorem e71_57 (x y : Int32) (ls : mL) (st : List Value) (σ : mS) : ev 71 57 ls (.int y :: .int x :: st) σ = ev 71 58 ls (.int (x ||| y) :: st) σ := e_ior k71_57
theorem k71_58 : cod 71 58 = some (.putfield 59, 3, 6, 9, 0, 0) := rfl
theorem e71_58 (x : Int32) (t : Nat) (ls : mL) (st : List Value) (σ : mS) : ev 71 58 ls (.int x :: .ref t :: st) σ = pfK (σ.1 t) 6 9 (.int x) (fun e => ev 71 61 ls st (mset σ t e)) := e_putI k71_58
theorem k71_61 : cod 71 61 = some (.return_, 1, 0, 0, 0, 0) := rfl
theorem e71_61 (ls : mL) (σ : mS) : ev 71 61 ls [] σ = some (none, σ) := e_vret k71_61 rfl
theorem m71 (t : Nat) (x0 : Int32) (x1 : Int32) (σ : mS) : evM 71 [.ref t, .int x0, .int x1] σ = ev 71 0 [some (.ref t), some (.int x0), some (.int x1), none] [] σ := rfl
theorem k72_0 : cod 72 0 = some (.aload_n 0, 1, 0, 0, 0, 0) := rfl
theorem e72_0 (x : Nat) (ls : mL) (st : List Value) (σ : mS) : ev 72 0 (some (.ref x) :: ls) st σ = ev 72 1 (some (.ref x) :: ls) (.ref x :: st) σ := e_aload1 k72_0 rfl
theorem k72_1 : cod 72 1 = some (.getfield 50, 3, 6, 6, 0, 0) := rfl
theorem e72_1 (t : Nat) (ls : mL) (st : List Value) (σ : mS) : ev 72 1 ls (.ref t :: st) σ = gfK (σ.1 t) 6 6 (fun v => ev 72 4 ls (v :: st) σ) := e_getf k72_1
theorem k72_4 : cod 72 4 = some (.ifCond .lt (42), 3, 46, 0, 0, 0) := rfl
theorem e72_4 (x : Int32) (ls : mL) (st : List Value) (σ : mS) : ev 72 4 ls (.int x :: st) σ = if x < 0 then ev 72 46 ls st σ else ev 72 7 ls st σ := e_if_lt k72_4
theorem k72_7 : cod 72 7 = some (.aload_n 0, 1, 0, 0, 0, 0) := rfl
theorem e72_7 (x : Nat) (ls : mL) (st : List Value) (σ : mS) : ev 72 7 (some (.ref x) :: ls) st σ = ev 72 8 (some (.ref x) :: ls) (.ref x :: st) σ := e_aload1 k72_7 rfl
theorem k72_8 : cod 72 8 = some (.getfield 50, 3, 6, 6, 0, 0) := rfl
theorem e72_8 (t : Nat) (ls : mL) (st : List Value) (σ : mS) : ev 72 8 ls (.ref t :: st) σ = gfK (σ.1 t) 6 6 (fun v => ev 72 11 ls (v :: st) σ) := e_getf k72_8
theorem k72_11 : cod 72 11 = some (.bipush (10), 2, 0, 0, 0, 0) := rfl
theorem e72_11 (ls : mL) (st : List Value) (σ : mS) : ev 72 11 ls st σ = ev 72 13 ls (.int 10 :: st) σ := e_bipush 10 k72_11 (by decide)
theorem k72_13 : cod 72 13 = some (.if_icmp .ge (33), 3, 46, 0, 0, 0) := rfl
theorem e72_13 (x y : Int32) (ls : mL) (st : List Value) (σ : mS) : ev 72 13 ls (.int y :: .int x :: st) σ = if y ≤ x then ev 72 46 ls st σ else ev 72 16 ls st σ := e_ic_ge k72_13
theorem k72_16 : cod 72 16 = some (.aload_n 0, 1, 0, 0, 0, 0) := rfl
theorem e72_16 (x : Nat) (ls : mL) (st : List Value) (σ : mS) : ev 72 16 (some (.ref x) :: ls) st σ = ev 72 17 (some (.ref x) :: ls) (.ref x :: st) σ := e_aload1 k72_16 rfl
theorem k72_17 : cod 72 17 = some (.getfield 21, 3, 6, 3, 0, 3) := rfl
theorem e72_17 (t : Nat) (ls : mL) (st : List Value) (σ : mS) : ev 72 17 ls (.ref t :: st) σ = gfK (σ.1 t) 6 3 (fun v => ev 72 20 ls (v :: st) σ) := e_getf k72_17
theorem k72_20 : cod 72 20 = some (.aload_n 0, 1, 0, 0, 0, 0) := rfl
theorem e72_20 (x : Nat) (ls : mL) (st : List Value) (σ : mS) : ev 72 20 (some (.ref x) :: ls) st σ = ev 72 21 (some (.ref x) :: ls) (.ref x :: st) σ := e_aload1 k72_20 rfl
theorem k72_21 : cod 72 21 = some (.getfield 50, 3, 6, 6, 0, 0) := rfl
theorem e72_21 (t : Nat) (ls : mL) (st : List Value) (σ : mS) : ev 72 21 ls (.ref t :: st) σ = gfK (σ.1 t) 6 6 (fun v => ev 72 24 ls (v :: st) σ) := e_getf k72_21
theorem k72_24 : cod 72 24 = some (.iload_n 1, 1, 0, 0, 0, 0) := rfl
theorem e72_24 (a0 : Option Value) (x : Int32) (ls : mL) (st : List Value) (σ : mS) : ev 72 24 (a0 :: some (.int x) :: ls) st σ = ev 72 25 (a0 :: some (.int x) :: ls) (.int x :: st) σ := e_iload1 k72_24 rfl
theorem k72_25 : cod 72 25 = some (.iastore, 1, 0, 0, 0, 0) := rfl
theorem e72_25 (j x : Int32) (t : Nat) (ls : mL) (st : List Value) (σ : mS) : ev 72 25 ls (.int x :: .int j :: .ref t :: st) σ = asK (σ.1 t) 0 j x (fun e => ev 72 26 ls st (mset σ t e)) := e_iast k72_25
theorem k72_26 : cod 72 26 = some (.aload_n 0, 1, 0, 0, 0, 0) := rfl
theorem e72_26 (x : Nat) (ls : mL) (st : List Value) (σ : mS) : ev 72 26 (some (.ref x) :: ls) st σ = ev 72 27 (some (.ref x) :: ls) (.ref x :: st) σ := e_aload1 k72_26 rfl
theorem k72_27 : cod 72 27 = some (.getfield 24, 3, 6, 4, 0, 3) := rfl
theorem e72_27 (t : Nat) (ls : mL) (st : List Value) (σ : mS) : ev 72 27 ls (.ref t :: st) σ = gfK (σ.1 t) 6 4 (fun v => ev 72 30 ls (v :: st) σ) := e_getf k72_27
theorem k72_30 : cod 72 30 = some (.aload_n 0, 1, 0, 0, 0, 0) := rfl
theorem e72_30 (x : Nat) (ls : mL) (st : List Value) (σ : mS) : ev 72 30 (some (.ref x) :: ls) st σ = ev 72 31 (some (.ref x) :: ls) (.ref x :: st) σ := e_aload1 k72_30 rfl
theorem k72_31 : cod 72 31 = some (.getfield 50, 3, 6, 6, 0, 0) := rfl
theorem e72_31 (t : Nat) (ls : mL) (st : List Value) (σ : mS) : ev 72 31 ls (.ref t :: st) σ = gfK (σ.1 t) 6 6 (fun v => ev 72 34 ls (v :: st) σ) := e_getf k72_31
theorem k72_34 : cod 72 34 = some (.iload_n 2, 1, 0, 0, 0, 0) := rfl
theorem e72_34 (a0 a1 : Option Value) (x : Int32) (ls : mL) (st : List Value) (σ : mS) : ev 72 34 (a0 :: a1 :: some (.int x) :: ls) st σ = ev 72 35 (a0 :: a1 :: some (.int x) :: ls) (.int x :: st) σ := e_iload1 k72_34 rfl
theorem k72_35 : cod 72 35 = some (.iastore, 1, 0, 0, 0, 0) := rfl
theorem e72_35 (j x : Int32) (t : Nat) (ls : mL) (st : List Value) (σ : mS) : ev 72 35 ls (.int x :: .int j :: .ref t :: st) σ = asK (σ.1 t) 0 j x (fun e => ev 72 36 ls st (mset σ t e)) := e_iast k72_35
theorem k72_36 : cod 72 36 = some (.aload_n 0, 1, 0, 0, 0, 0) := rfl
theorem e72_36 (x : Nat) (ls : mL) (st : List Value) (σ : mS) : ev 72 36 (some (.ref x) :: ls) st σ = ev 72 37 (some (.ref x) :: ls) (.ref x :: st) σ := e_aload1 k72_36 rfl
theorem k72_37 : cod 72 37 = some (.dup, 1, 0, 0, 0, 0) := rfl
theorem e72_37i (x : Int32) (ls : mL) (st : List Value) (σ : mS) : ev 72 37 ls (.int x :: st) σ = ev 72 38 ls (.int x :: .int x :: st) σ := e_dupI k72_37
theorem e72_37r (x : Nat) (ls : mL) (st : List Value) (σ : mS) : ev 72 37 ls (.ref x :: st) σ = ev 72 38 ls (.ref x :: .ref x :: st) σ := e_dupR k72_37
theorem k72_38 : cod 72 38 = some (.getfield 50, 3, 6, 6, 0, 0) := rfl
theorem e72_38 (t : Nat) (ls : mL) (st : List Value) (σ : mS) : ev 72 38 ls (.ref t :: st) σ = gfK (σ.1 t) 6 6 (fun v => ev 72 41 ls (v :: st) σ) := e_getf k72_38
theorem k72_41 : cod 72 41 = some (.iconst 1, 1, 0, 0, 0, 0) := rfl
theorem e72_41 (ls : mL) (st : List Value) (σ : mS) : ev 72 41 ls st σ = ev 72 42 ls (.int 1 :: st) σ := e_iconst 1 k72_41 (by decide)
theorem k72_42 : cod 72 42 = some (.iadd, 1, 0, 0, 0, 0) := rfl
theorem e72_42 (x y : Int32) (ls : mL) (st : List Value) (σ : mS) : ev 72 42 ls (.int y :: .int x :: st) σ = ev 72 43 ls (.int (x + y) :: st) σ := e_iadd k72_42
theorem k72_43 : cod 72 43 = some (.putfield 50, 3, 6, 6, 0, 0) := rfl
theorem e72_43 (x : Int32) (t : Nat) (ls : mL) (st : List Value) (σ : mS) : ev 72 43 ls (.int x :: .ref t :: st) σ = pfK (σ.1 t) 6 6 (.int x) (fun e => ev 72 46 ls st (mset σ t e)) := e_putI k72_43
theorem k72_46 : cod 72 46 = some (.return_, 1, 0, 0, 0, 0) := rfl
theorem e72_46 (ls : mL) (σ : mS) : ev 72 46 ls [] σ = some (none, σ) := e_vret k72_46 rfl
theorem m72 (t : Nat) (x0 : Int32) (x1 : Int32) (σ : mS) : evM 72 [.ref t, .int x0, .int x1] σ = ev 72 0 [some (.ref t), some (.int x0), some (.int x1)] [] σ := rfl
theorem k73_0 : cod 73 0 = some (.iload_n 1, 1, 0, 0, 0, 0) := rfl
theorem e73_0 (a0 : Option Value) (x : Int32) (ls : mL) (st : List Value) (σ : mS) : ev 73 0 (a0 :: some (.int x) :: ls) st σ = ev 73 1 (a0 :: some (.int x) :: ls) (.int x :: st) σ := e_iload1 k73_0 rfl
theorem k73_1 : cod 73 1 = some (.iload_n 2, 1, 0, 0, 0, 0) := rfl
theorem e73_1 (a0 a1 : Option Value) (x : Int32) (ls : mL) (st : List Value) (σ : mS) : ev 73 1 (a0 :: a1 :: some (.int x) :: ls) st σ = ev 73 2 (a0 :: a1 :: some (.int x) :: ls) (.int x :: st) σ := e_iload1 k73_1 rfl
theorem k73_2 : cod 73 2 = some (.invokestatic 62, 3, 63, 2, 0, 0) := rfl
theorem e73_2 (x0 : Int32) (x1 : Int32) (ls : mL) (st : List Value) (σ : mS) (hm : mCat st ≤ 8) : ev 73 2 ls (.int x1 :: .int x0 :: st) σ = (evM 63 [.int x0, .int x1] σ).bind fun z => ev 73 5 ls (z.1.toList ++ st) z.2 := e_callS k73_2 (by decide) rfl ⟨hm, Nat.le_of_ble_eq_true rfl⟩
theorem k73_5 : cod 73 5 = some (.istore 4, 2, 0, 0, 0, 0) := rfl
theorem e73_5i (a0 a1 a2 : Option Value) (y : Int32) (o : Option Value) (x : Int32) (ls : mL) (st : List Value) (σ : mS) : ev 73 5 (a0 :: a1 :: a2 :: some (.int y) :: o :: ls) (.int x :: st) σ = ev 73 7 (a0 :: a1 :: a2 :: some (.int y) :: some (.int x) :: ls) st σ := e_istore0 k73_5 (Nat.le_add_left 5 ls.length)
theorem e73_5n (a0 a1 a2 : Option Value) (o : Option Value) (x : Int32) (ls : mL) (st : List Value) (σ : mS) : ev 73 5 (a0 :: a1 :: a2 :: none :: o :: ls) (.int x :: st) σ = ev 73 7 (a0 :: a1 :: a2 :: none :: some (.int x) :: ls) st σ := e_istore0 k73_5 (Nat.le_add_left 5 ls.length)
theorem e73_5r (a0 a1 a2 : Option Value) (y : Nat) (o : Option Value) (x : Int32) (ls : mL) (st : List Value) (σ : mS) : ev 73 5 (a0 :: a1 :: a2 :: some (.ref y) :: o :: ls) (.int x :: st) σ = ev 73 7 (a0 :: a1 :: a2 :: some (.ref y) :: some (.int x) :: ls) st σ := e_istore0 k73_5 (Nat.le_add_left 5 ls.length)
theorem k73_7 : cod 73 7 = some (.iload 4, 2, 0, 0, 0, 0) := rfl
theorem e73_7 (a0 a1 a2 a3 : Option Value) (x : Int32) (ls : mL) (st : List Value) (σ : mS) : ev 73 7 (a0 :: a1 :: a2 :: a3 :: some (.int x) :: ls) st σ = ev 73 9 (a0 :: a1 :: a2 :: a3 :: some (.int x) :: ls) (.int x :: st) σ := e_iload0 k73_7 rfl
theorem k73_9 : cod 73 9 = some (.ifCond .lt (23), 3, 32, 0, 0, 0) := rfl
theorem e73_9 (x : Int32) (ls : mL) (st : List Value) (σ : mS) : ev 73 9 ls (.int x :: st) σ = if x < 0 then ev 73 32 ls st σ else ev 73 12 ls st σ := e_if_lt k73_9
theorem k73_12 : cod 73 12 = some (.iload_n 3, 1, 0, 0, 0, 0) := rfl
theorem e73_12 (a0 a1 a2 : Option Value) (x : Int32) (ls : mL) (st : List Value) (σ : mS) : ev 73 12 (a0 :: a1 :: a2 :: some (.int x) :: ls) st σ = ev 73 13 (a0 :: a1 :: a2 :: some (.int x) :: ls) (.int x :: st) σ := e_iload1 k73_12 rfl
theorem k73_13 : cod 73 13 = some (.ifCond .lt (19), 3, 32, 0, 0, 0) := rfl
theorem e73_13 (x : Int32) (ls : mL) (st : List Value) (σ : mS) : ev 73 13 ls (.int x :: st) σ = if x < 0 then ev 73 32 ls st σ else ev 73 16 ls st σ := e_if_lt k73_13
theorem k73_16 : cod 73 16 = some (.iload_n 3, 1, 0, 0, 0, 0) := rfl
theorem e73_16 (a0 a1 a2 : Option Value) (x : Int32) (ls : mL) (st : List Value) (σ : mS) : ev 73 16 (a0 :: a1 :: a2 :: some (.int x) :: ls) st σ = ev 73 17 (a0 :: a1 :: a2 :: some (.int x) :: ls) (.int x :: st) σ := e_iload1 k73_16 rfl
theorem k73_17 : cod 73 17 = some (.iconst 4, 1, 0, 0, 0, 0) := rfl
theorem e73_17 (ls : mL) (st : List Value) (σ : mS) : ev 73 17 ls st σ = ev 73 18 ls (.int 4 :: st) σ := e_iconst 4 k73_17 (by decide)
theorem k73_18 : cod 73 18 = some (.if_icmp .ge (14), 3, 32, 0, 0, 0) := rfl
theorem e73_18 (x y : Int32) (ls : mL) (st : List Value) (σ : mS) : ev 73 18 ls (.int y :: .int x :: st) σ = if y ≤ x then ev 73 32 ls st σ else ev 73 21 ls st σ := e_ic_ge k73_18
theorem k73_21 : cod 73 21 = some (.iload_n 3, 1, 0, 0, 0, 0) := rfl
theorem e73_21 (a0 a1 a2 : Option Value) (x : Int32) (ls : mL) (st : List Value) (σ : mS) : ev 73 21 (a0 :: a1 :: a2 :: some (.int x) :: ls) st σ = ev 73 22 (a0 :: a1 :: a2 :: some (.int x) :: ls) (.int x :: st) σ := e_iload1 k73_21 rfl
theorem k73_22 : cod 73 22 = some (.aload_n 0, 1, 0, 0, 0, 0) := rfl
theorem e73_22 (x : Nat) (ls : mL) (st : List Value) (σ : mS) : ev 73 22 (some (.ref x) :: ls) st σ = ev 73 23 (some (.ref x) :: ls) (.ref x :: st) σ := e_aload1 k73_22 rfl
theorem k73_23 : cod 73 23 = some (.getfield 9, 3, 6, 0, 0, 3) := rfl
theorem e73_23 (t : Nat) (ls : mL) (st : List Value) (σ : mS) : ev 73 23 ls (.ref t :: st) σ = gfK (σ.1 t) 6 0 (fun v => ev 73 26 ls (v :: st) σ) := e_getf k73_23
theorem k73_26 : cod 73 26 = some (.iload 4, 2, 0, 0, 0, 0) := rfl
theorem e73_26 (a0 a1 a2 a3 : Option Value) (x : Int32) (ls : mL) (st : List Value) (σ : mS) : ev 73 26 (a0 :: a1 :: a2 :: a3 :: some (.int x) :: ls) st σ = ev 73 28 (a0 :: a1 :: a2 :: a3 :: some (.int x) :: ls) (.int x :: st) σ := e_iload0 k73_26 rfl
theorem k73_28 : cod 73 28 = some (.iaload, 1, 0, 0, 0, 0) := rfl
theorem e73_28 (j : Int32) (t : Nat) (ls : mL) (st : List Value) (σ : mS) : ev 73 28 ls (.int j :: .ref t :: st) σ = alK (σ.1 t) 0 j (fun v => ev 73 29 ls (.int v :: st) σ) := e_iald k73_28
theorem k73_29 : cod 73 29 = some (.if_icmp .lt (8), 3, 37, 0, 0, 0) := rfl
theorem e73_29 (x y : Int32) (ls : mL) (st : List Value) (σ : mS) : ev 73 29 ls (.int y :: .int x :: st) σ = if x < y then ev 73 37 ls st σ else ev 73 32 ls st σ := e_ic_lt k73_29
theorem k73_32 : cod 73 32 = some (.bipush (-9), 2, 0, 0, 0, 0) := rfl
theorem e73_32 (ls : mL) (st : List Value) (σ : mS) : ev 73 32 ls st σ = ev 73 34 ls (.int (-9) :: st) σ := e_bipush (-9) k73_32 (by decide)
theorem k73_34 : cod 73 34 = some (.goto (14), 3, 48, 0, 0, 0) := rfl
theorem e73_34 (ls : mL) (st : List Value) (σ : mS) : ev 73 34 ls st σ = ev 73 48 ls st σ := e_goto k73_34
theorem k73_37 : cod 73 37 = some (.aload_n 0, 1, 0, 0, 0, 0) := rfl
theorem e73_37 (x : Nat) (ls : mL) (st : List Value) (σ : mS) : ev 73 37 (some (.ref x) :: ls) st σ = ev 73 38 (some (.ref x) :: ls) (.ref x :: st) σ := e_aload1 k73_37 rfl
theorem k73_38 : cod 73 38 = some (.getfield 18, 3, 6, 2, 0, 3) := rfl
theorem e73_38 (t : Nat) (ls : mL) (st : List Value) (σ : mS) : ev 73 38 ls (.ref t :: st) σ = gfK (σ.1 t) 6 2 (fun v => ev 73 41 ls (v :: st) σ) := e_getf k73_38
theorem k73_41 : cod 73 41 = some (.iload 4, 2, 0, 0, 0, 0) := rfl
theorem e73_41 (a0 a1 a2 a3 : Option Value) (x : Int32) (ls : mL) (st : List Value) (σ : mS) : ev 73 41 (a0 :: a1 :: a2 :: a3 :: some (.int x) :: ls) st σ = ev 73 43 (a0 :: a1 :: a2 :: a3 :: some (.int x) :: ls) (.int x :: st) σ := e_iload0 k73_41 rfl
theorem k73_43 : cod 73 43 = some (.iconst 4, 1, 0, 0, 0, 0) := rfl
theorem e73_43 (ls : mL) (st : List Value) (σ : mS) : ev 73 43 ls st σ = ev 73 44 ls (.int 4 :: st) σ := e_iconst 4 k73_43 (by decide)
theorem k73_44 : cod 73 44 = some (.imul, 1, 0, 0, 0, 0) := rfl
theorem e73_44 (x y : Int32) (ls : mL) (st : List Value) (σ : mS) : ev 73 44 ls (.int y :: .int x :: st) σ = ev 73 45 ls (.int (x * y) :: st) σ := e_imul k73_44
theorem k73_45 : cod 73 45 = some (.iload_n 3, 1, 0, 0, 0, 0) := rfl
theorem e73_45 (a0 a1 a2 : Option Value) (x : Int32) (ls : mL) (st : List Value) (σ : mS) : ev 73 45 (a0 :: a1 :: a2 :: some (.int x) :: ls) st σ = ev 73 46 (a0 :: a1 :: a2 :: some (.int x) :: ls) (.int x :: st) σ := e_iload1 k73_45 rfl
theorem k73_46 : cod 73 46 = some (.iadd, 1, 0, 0, 0, 0) := rfl
theorem e73_46 (x y : Int32) (ls : mL) (st : List Value) (σ : mS) : ev 73 46 ls (.int y :: .int x :: st) σ = ev 73 47 ls (.int (x + y) :: st) σ := e_iadd k73_46
theorem k73_47 : cod 73 47 = some (.iaload, 1, 0, 0, 0, 0) := rfl
theorem e73_47 (j : Int32) (t : Nat) (ls : mL) (st : List Value) (σ : mS) : ev 73 47 ls (.int j :: .ref t :: st) σ = alK (σ.1 t) 0 j (fun v => ev 73 48 ls (.int v :: st) σ) := e_iald k73_47
theorem k73_48 : cod 73 48 = some (.ireturn, 1, 0, 0, 0, 0) := rfl
theorem e73_48 (x : Int32) (ls : mL) (σ : mS) : ev 73 48 ls [.int x] σ = some (some (.int x), σ) := e_iret k73_48 rfl
theorem m73 (t : Nat) (x0 : Int32) (x1 : Int32) (x2 : Int32) (σ : mS) : evM 73 [.ref t, .int x0, .int x1, .int x2] σ = ev 73 0 [some (.ref t), some (.int x0), some (.int x1), some (.int x2), none] [] σ := rfl
theorem k74_0 : cod 74 0 = some (.iload_n 1, 1, 0, 0, 0, 0) := rfl
theorem e74_0 (a0 : Option Value) (x : Int32) (ls : mL) (st : List Value) (σ : mS) : ev 74 0 (a0 :: some (.int x) :: ls) st σ = ev 74 1 (a0 :: some (.int x) :: ls) (.int x :: st) σ := e_iload1 k74_0 rfl
theorem k74_1 : cod 74 1 = some (.invokestatic 66, 3, 85, 1, 1, 0) := rfl
theorem e74_1 (x0 : Int32) (ls : mL) (st : List Value) (σ : mS) (hm : mCat st ≤ 8) : ev 74 1 ls (.int x0 :: st) σ = (evM 85 [.int x0] σ).bind fun z => ev 74 4 ls (z.1.toList ++ st) z.2 := e_callS k74_1 (by decide) rfl ⟨hm, Nat.le_of_ble_eq_true rfl⟩
theorem k74_4 : cod 74 4 = some (.ifCond .eq (12), 3, 16, 0, 0, 0) := rfl
theorem e74_4 (x : Int32) (ls : mL) (st : List Value) (σ : mS) : ev 74 4 ls (.int x :: st) σ = if x = 0 then ev 74 16 ls st σ else ev 74 7 ls st σ := e_if_eq k74_4
theorem k74_7 : cod 74 7 = some (.aload_n 0, 1, 0, 0, 0, 0) := rfl
theorem e74_7 (x : Nat) (ls : mL) (st : List Value) (σ : mS) : ev 74 7 (some (.ref x) :: ls) st σ = ev 74 8 (some (.ref x) :: ls) (.ref x :: st) σ := e_aload1 k74_7 rfl
theorem k74_8 : cod 74 8 = some (.getfield 27, 3, 6, 12, 0, 3) := rfl
theorem e74_8 (t : Nat) (ls : mL) (st : List Value) (σ : mS) : ev 74 8 ls (.ref t :: st) σ = gfK (σ.1 t) 6 12 (fun v => ev 74 11 ls (v :: st) σ) := e_getf k74_8
theorem k74_11 : cod 74 11 = some (.iload_n 1, 1, 0, 0, 0, 0) := rfl
theorem e74_11 (a0 : Option Value) (x : Int32) (ls : mL) (st : List Value) (σ : mS) : ev 74 11 (a0 :: some (.int x) :: ls) st σ = ev 74 12 (a0 :: some (.int x) :: ls) (.int x :: st) σ := e_iload1 k74_11 rfl
theorem k74_12 : cod 74 12 = some (.iaload, 1, 0, 0, 0, 0) := rfl
theorem e74_12 (j : Int32) (t : Nat) (ls : mL) (st : List Value) (σ : mS) : ev 74 12 ls (.int j :: .ref t :: st) σ = alK (σ.1 t) 0 j (fun v => ev 74 13 ls (.int v :: st) σ) := e_iald k74_12
theorem k74_13 : cod 74 13 = some (.goto (4), 3, 17, 0, 0, 0) := rfl
theorem e74_13 (ls : mL) (st : List Value) (σ : mS) : ev 74 13 ls st σ = ev 74 17 ls st σ := e_goto k74_13
theorem k74_16 : cod 74 16 = some (.iconst 0, 1, 0, 0, 0, 0) := rfl
theorem e74_16 (ls : mL) (st : List Value) (σ : mS) : ev 74 16 ls st σ = ev 74 17 ls (.int 0 :: st) σ := e_iconst 0 k74_16 (by decide)
theorem k74_17 : cod 74 17 = some (.ireturn, 1, 0, 0, 0, 0) := rfl
theorem e74_17 (x : Int32) (ls : mL) (σ : mS) : ev 74 17 ls [.int x] σ = some (some (.int x), σ) := e_iret k74_17 rfl
theorem m74 (t : Nat) (x0 : Int32) (σ : mS) : evM 74 [.ref t, .int x0] σ = ev 74 0 [some (.ref t), some (.int x0)] [] σ := rfl
theorem k75_0 : cod 75 0 = some (.iload_n 1, 1, 0, 0, 0, 0) := rfl
theorem e75_0 (a0 : Option Value) (x : Int32) (ls : mL) (st : List Value) (σ : mS) : ev 75 0 (a0 :: some (.int x) :: ls) st σ = ev 75 1 (a0 :: some (.int x) :: ls) (.int x :: st) σ := e_iload1 k75_0 rfl
theorem k75_1 : cod 75 1 = some (.invokestatic 66, 3, 85, 1, 1, 0) := rfl
theorem e75_1 (x0 : Int32) (ls : mL) (st : List Value) (σ : mS) (hm : mCat st ≤ 8) : ev 75 1 ls (.int x0 :: st) σ = (evM 85 [.int x0] σ).bind fun z => ev 75 4 ls (z.1.toList ++ st) z.2 := e_callS k75_1 (by decide) rfl ⟨hm, Nat.le_of_ble_eq_true rfl⟩
theorem k75_4 : cod 75 4 = some (.ifCond .eq (12), 3, 16, 0, 0, 0) := rfl
theorem e75_4 (x : Int32) (ls : mL) (st : List Value) (σ : mS) : ev 75 4 ls (.int x :: st) σ = if x = 0 then ev 75 16 ls st σ else ev 75 7 ls st σ := e_if_eq k75_4
theorem k75_7 : cod 75 7 = some (.aload_n 0, 1, 0, 0, 0, 0) := rfl
theorem e75_7 (x : Nat) (ls : mL) (st : List Value) (σ : mS) : ev 75 7 (some (.ref x) :: ls) st σ = ev 75 8 (some (.ref x) :: ls) (.ref x :: st) σ := e_aload1 k75_7 rfl
theorem k75_8 : cod 75 8 = some (.getfield 30, 3, 6, 13, 0, 3) := rfl
theorem e75_8 (t : Nat) (ls : mL) (st : List Value) (σ : mS) : ev 75 8 ls (.ref t :: st) σ = gfK (σ.1 t) 6 13 (fun v => ev 75 11 ls (v :: st) σ) := e_getf k75_8
theorem k75_11 : cod 75 11 = some (.iload_n 1, 1, 0, 0, 0, 0) := rfl
theorem e75_11 (a0 : Option Value) (x : Int32) (ls : mL) (st : List Value) (σ : mS) : ev 75 11 (a0 :: some (.int x) :: ls) st σ = ev 75 12 (a0 :: some (.int x) :: ls) (.int x :: st) σ := e_iload1 k75_11 rfl
theorem k75_12 : cod 75 12 = some (.iaload, 1, 0, 0, 0, 0) := rfl
theorem e75_12 (j : Int32) (t : Nat) (ls : mL) (st : List Value) (σ : mS) : ev 75 12 ls (.int j :: .ref t :: st) σ = alK (σ.1 t) 0 j (fun v => ev 75 13 ls (.int v :: st) σ) := e_iald k75_12
theorem k75_13 : cod 75 13 = some (.goto (5), 3, 18, 0, 0, 0) := rfl
theorem e75_13 (ls : mL) (st : List Value) (σ : mS) : ev 75 13 ls st σ = ev 75 18 ls st σ := e_goto k75_13
theorem k75_16 : cod 75 16 = some (.bipush (-9), 2, 0, 0, 0, 0) := rfl
theorem e75_16 (ls : mL) (st : List Value) (σ : mS) : ev 75 16 ls st σ = ev 75 18 ls (.int (-9) :: st) σ := e_bipush (-9) k75_16 (by decide)
theorem k75_18 : cod 75 18 = some (.ireturn, 1, 0, 0, 0, 0) := rfl
theorem e75_18 (x : Int32) (ls : mL) (σ : mS) : ev 75 18 ls [.int x] σ = some (some (.int x), σ) := e_iret k75_18 rfl
theorem m75 (t : Nat) (x0 : Int32) (σ : mS) : evM 75 [.ref t, .int x0] σ = ev 75 0 [some (.ref t), some (.int x0)] [] σ := rfl
theorem k76_0 : cod 76 0 = some (.iload_n 1, 1, 0, 0, 0, 0) := rfl
theorem e76_0 (a0 : Option Value) (x : Int32) (ls : mL) (st : List Value) (σ : mS) : ev 76 0 (a0 :: some (.int x) :: ls) st σ = ev 76 1 (a0 :: some (.int x) :: ls) (.int x :: st) σ := e_iload1 k76_0 rfl
theorem k76_1 : cod 76 1 = some (.invokestatic 66, 3, 85, 1, 1, 0) := rfl
theorem e76_1 (x0 : Int32) (ls : mL) (st : List Value) (σ : mS) (hm : mCat st ≤ 8) : ev 76 1 ls (.int x0 :: st) σ = (evM 85 [.int x0] σ).bind fun z => ev 76 4 ls (z.1.toList ++ st) z.2 := e_callS k76_1 (by decide) rfl ⟨hm, Nat.le_of_ble_eq_true rfl⟩
theorem k76_4 : cod 76 4 = some (.ifCond .ne (6), 3, 10, 0, 0, 0) := rfl
theorem e76_4 (x : Int32) (ls : mL) (st : List Value) (σ : mS) : ev 76 4 ls (.int x :: st) σ = if x = 0 then ev 76 7 ls st σ else ev 76 10 ls st σ := e_if_ne k76_4
theorem k76_7 : cod 76 7 = some (.bipush (-9), 2, 0, 0, 0, 0) := rfl
theorem e76_7 (ls : mL) (st : List Value) (σ : mS) : ev 76 7 ls st σ = ev 76 9 ls (.int (-9) :: st) σ := e_bipush (-9) k76_7 (by decide)
theorem k76_9 : cod 76 9 = some (.ireturn, 1, 0, 0, 0, 0) := rfl
theorem e76_9 (x : Int32) (ls : mL) (σ : mS) : ev 76 9 ls [.int x] σ = some (some (.int x), σ) := e_iret k76_9 rfl
theorem k76_10 : cod 76 10 = some (.iload_n 2, 1, 0, 0, 0, 0) := rfl
theorem e76_10 (a0 a1 : Option Value) (x : Int32) (ls : mL) (st : List Value) (σ : mS) : ev 76 10 (a0 :: a1 :: some (.int x) :: ls) st σ = ev 76 11 (a0 :: a1 :: some (.int x) :: ls) (.int x :: st) σ := e_iload1 k76_10 rfl
theorem k76_11 : cod 76 11 = some (.iconst 1, 1, 0, 0, 0, 0) := rfl
theorem e76_11 (ls : mL) (st : List Value) (σ : mS) : ev 76 11 ls st σ = ev 76 12 ls (.int 1 :: st) σ := e_iconst 1 k76_11 (by decide)
theorem k76_12 : cod 76 12 = some (.if_icmp .ne (12), 3, 24, 0, 0, 0) := rfl
theorem e76_12 (x y : Int32) (ls : mL) (st : List Value) (σ : mS) : ev 76 12 ls (.int y :: .int x :: st) σ = if x = y then ev 76 15 ls st σ else ev 76 24 ls st σ := e_ic_ne k76_12
theorem k76_15 : cod 76 15 = some (.aload_n 0, 1, 0, 0, 0, 0) := rfl
theorem e76_15 (x : Nat) (ls : mL) (st : List Value) (σ : mS) : ev 76 15 (some (.ref x) :: ls) st σ = ev 76 16 (some (.ref x) :: ls) (.ref x :: st) σ := e_aload1 k76_15 rfl
theorem k76_16 : cod 76 16 = some (.getfield 33, 3, 6, 14, 0, 3) := rfl
theorem e76_16 (t : Nat) (ls : mL) (st : List Value) (σ : mS) : ev 76 16 ls (.ref t :: st) σ = gfK (σ.1 t) 6 14 (fun v => ev 76 19 ls (v :: st) σ) := e_getf k76_16
theorem k76_19 : cod 76 19 = some (.iload_n 1, 1, 0, 0, 0, 0) := rfl
theorem e76_19 (a0 : Option Value) (x : Int32) (ls : mL) (st : List Value) (σ : mS) : ev 76 19 (a0 :: some (.int x) :: ls) st σ = ev 76 20 (a0 :: some (.int x) :: ls) (.int x :: st) σ := e_iload1 k76_19 rfl
theorem k76_20 : cod 76 20 = some (.iaload, 1, 0, 0, 0, 0) := rfl
theorem e76_20 (j : Int32) (t : Nat) (ls : mL) (st : List Value) (σ : mS) : ev 76 20 ls (.int j :: .ref t :: st) σ = alK (σ.1 t) 0 j (fun v => ev 76 21 ls (.int v :: st) σ) := e_iald k76_20
theorem k76_21 : cod 76 21 = some (.goto (9), 3, 30, 0, 0, 0) := rfl
theorem e76_21 (ls : mL) (st : List Value) (σ : mS) : ev 76 21 ls st σ = ev 76 30 ls st σ := e_goto k76_21
theorem k76_24 : cod 76 24 = some (.aload_n 0, 1, 0, 0, 0, 0) := rfl
theorem e76_24 (x : Nat) (ls : mL) (st : List Value) (σ : mS) : ev 76 24 (some (.ref x) :: ls) st σ = ev 76 25 (some (.ref x) :: ls) (.ref x :: st) σ := e_aload1 k76_24 rfl
theorem k76_25 : cod 76 25 = some (.getfield 36, 3, 6, 15, 0, 3) := rfl
theorem e76_25 (t : Nat) (ls : mL) (st : List Value) (σ : mS) : ev 76 25 ls (.ref t :: st) σ = gfK (σ.1 t) 6 15 (fun v => ev 76 28 ls (v :: st) σ) := e_getf k76_25
theorem k76_28 : cod 76 28 = some (.iload_n 1, 1, 0, 0, 0, 0) := rfl
theorem e76_28 (a0 : Option Value) (x : Int32) (ls : mL) (st : List Value) (σ : mS) : ev 76 28 (a0 :: some (.int x) :: ls) st σ = ev 76 29 (a0 :: some (.int x) :: ls) (.int x :: st) σ := e_iload1 k76_28 rfl
theorem k76_29 : cod 76 29 = some (.iaload, 1, 0, 0, 0, 0) := rfl
theorem e76_29 (j : Int32) (t : Nat) (ls : mL) (st : List Value) (σ : mS) : ev 76 29 ls (.int j :: .ref t :: st) σ = alK (σ.1 t) 0 j (fun v => ev 76 30 ls (.int v :: st) σ) := e_iald k76_29
theorem k76_30 : cod 76 30 = some (.ireturn, 1, 0, 0, 0, 0) := rfl
theorem e76_30 (x : Int32) (ls : mL) (σ : mS) : ev 76 30 ls [.int x] σ = some (some (.int x), σ) := e_iret k76_30 rfl
theorem m76 (t : Nat) (x0 : Int32) (x1 : Int32) (σ : mS) : evM 76 [.ref t, .int x0, .int x1] σ = ev 76 0 [some (.ref t), some (.int x0), some (.int x1)] [] σ := rfl
theorem k77_0 : cod 77 0 = some (.aload_n 0, 1, 0, 0, 0, 0) := rfl
theorem e77_0 (x : Nat) (ls : mL) (st : List Value) (σ : mS) : ev 77 0 (some (.ref x) :: ls) st σ = ev 77 1 (some (.ref x) :: ls) (.ref x :: st) σ := e_aload1 k77_0 rfl
theorem k77_1 : cod 77 1 = some (.iload_n 1, 1, 0, 0, 0, 0) := rfl
theorem e77_1 (a0 : Option Value) (x : Int32) (ls : mL) (st : List Value) (σ : mS) : ev 77 1 (a0 :: some (.int x) :: ls) st σ = ev 77 2 (a0 :: some (.int x) :: ls) (.int x :: st) σ := e_iload1 k77_1 rfl
theorem k77_2 : cod 77 2 = some (.iload_n 2, 1, 0, 0, 0, 0) := rfl
theorem e77_2 (a0 a1 : Option Value) (x : Int32) (ls : mL) (st : List Value) (σ : mS) : ev 77 2 (a0 :: a1 :: some (.int x) :: ls) st σ = ev 77 3 (a0 :: a1 :: some (.int x) :: ls) (.int x :: st) σ := e_iload1 k77_2 rfl
theorem k77_3 : cod 77 3 = some (.invokevirtual 123, 3, 76, 2, 0, 6) := rfl
theorem e77_3 (t : Nat) (x0 : Int32) (x1 : Int32) (ls : mL) (st : List Value) (σ : mS) (hm : mCat st ≤ 8) : ev 77 3 ls (.int x1 :: .int x0 :: .ref t :: st) σ = isC (σ.1 t) 6 ((evM 76 [.ref t, .int x0, .int x1] σ).bind fun z => ev 77 6 ls (z.1.toList ++ st) z.2) := e_callVK k77_3 (by decide) rfl ⟨hm, Nat.le_of_ble_eq_true rfl⟩
theorem k77_6 : cod 77 6 = some (.istore_n 3, 1, 0, 0, 0, 0) := rfl
theorem e77_6i (a0 a1 : Option Value) (y : Int32) (o : Option Value) (x : Int32) (ls : mL) (st : List Value) (σ : mS) : ev 77 6 (a0 :: a1 :: some (.int y) :: o :: ls) (.int x :: st) σ = ev 77 7 (a0 :: a1 :: some (.int y) :: some (.int x) :: ls) st σ := e_istore1 k77_6 (Nat.le_add_left 4 ls.length)
theorem e77_6n (a0 a1 : Option Value) (o : Option Value) (x : Int32) (ls : mL) (st : List Value) (σ : mS) : ev 77 6 (a0 :: a1 :: none :: o :: ls) (.int x :: st) σ = ev 77 7 (a0 :: a1 :: none :: some (.int x) :: ls) st σ := e_istore1 k77_6 (Nat.le_add_left 4 ls.length)
theorem e77_6r (a0 a1 : Option Value) (y : Nat) (o : Option Value) (x : Int32) (ls : mL) (st : List Value) (σ : mS) : ev 77 6 (a0 :: a1 :: some (.ref y) :: o :: ls) (.int x :: st) σ = ev 77 7 (a0 :: a1 :: some (.ref y) :: some (.int x) :: ls) st σ := e_istore1 k77_6 (Nat.le_add_left 4 ls.length)
theorem k77_7 : cod 77 7 = some (.iconst 0, 1, 0, 0, 0, 0) := rfl
theorem e77_7 (ls : mL) (st : List Value) (σ : mS) : ev 77 7 ls st σ = ev 77 8 ls (.int 0 :: st) σ := e_iconst 0 k77_7 (by decide)
theorem k77_8 : cod 77 8 = some (.istore 4, 2, 0, 0, 0, 0) := rfl
theorem e77_8i (a0 a1 a2 : Option Value) (y : Int32) (o : Option Value) (x : Int32) (ls : mL) (st : List Value) (σ : mS) : ev 77 8 (a0 :: a1 :: a2 :: some (.int y) :: o :: ls) (.int x :: st) σ = ev 77 10 (a0 :: a1 :: a2 :: some (.int y) :: some (.int x) :: ls) st σ := e_istore0 k77_8 (Nat.le_add_left 5 ls.length)
theorem e77_8n (a0 a1 a2 : Option Value) (o : Option Value) (x : Int32) (ls : mL) (st : List Value) (σ : mS) : ev 77 8 (a0 :: a1 :: a2 :: none :: o :: ls) (.int x :: st) σ = ev 77 10 (a0 :: a1 :: a2 :: none :: some (.int x) :: ls) st σ := e_istore0 k77_8 (Nat.le_add_left 5 ls.length)
theorem e77_8r (a0 a1 a2 : Option Value) (y : Nat) (o : Option Value) (x : Int32) (ls : mL) (st : List Value) (σ : mS) : ev 77 8 (a0 :: a1 :: a2 :: some (.ref y) :: o :: ls) (.int x :: st) σ = ev 77 10 (a0 :: a1 :: a2 :: some (.ref y) :: some (.int x) :: ls) st σ := e_istore0 k77_8 (Nat.le_add_left 5 ls.length)
theorem k77_10 : cod 77 10 = some (.iload 4, 2, 0, 0, 0, 0) := rfl
theorem e77_10 (a0 a1 a2 a3 : Option Value) (x : Int32) (ls : mL) (st : List Value) (σ : mS) : ev 77 10 (a0 :: a1 :: a2 :: a3 :: some (.int x) :: ls) st σ = ev 77 12 (a0 :: a1 :: a2 :: a3 :: some (.int x) :: ls) (.int x :: st) σ := e_iload0 k77_10 rfl
theorem k77_12 : cod 77 12 = some (.bipush (8), 2, 0, 0, 0, 0) := rfl
theorem e77_12 (ls : mL) (st : List Value) (σ : mS) : ev 77 12 ls st σ = ev 77 14 ls (.int 8 :: st) σ := e_bipush 8 k77_12 (by decide)
theorem k77_14 : cod 77 14 = some (.if_icmp .ge (44), 3, 58, 0, 0, 0) := rfl
theorem e77_14 (x y : Int32) (ls : mL) (st : List Value) (σ : mS) : ev 77 14 ls (.int y :: .int x :: st) σ = if y ≤ x then ev 77 58 ls st σ else ev 77 17 ls st σ := e_ic_ge k77_14
theorem k77_17 : cod 77 17 = some (.iload_n 3, 1, 0, 0, 0, 0) := rfl
theorem e77_17 (a0 a1 a2 : Option Value) (x : Int32) (ls : mL) (st : List Value) (σ : mS) : ev 77 17 (a0 :: a1 :: a2 :: some (.int x) :: ls) st σ = ev 77 18 (a0 :: a1 :: a2 :: some (.int x) :: ls) (.int x :: st) σ := e_iload1 k77_17 rfl
theorem k77_18 : cod 77 18 = some (.ifCond .le (40), 3, 58, 0, 0, 0) := rfl
theorem e77_18 (x : Int32) (ls : mL) (st : List Value) (σ : mS) : ev 77 18 ls (.int x :: st) σ = if x ≤ 0 then ev 77 58 ls st σ else ev 77 21 ls st σ := e_if_le k77_18
theorem k77_21 : cod 77 21 = some (.aload_n 0, 1, 0, 0, 0, 0) := rfl
theorem e77_21 (x : Nat) (ls : mL) (st : List Value) (σ : mS) : ev 77 21 (some (.ref x) :: ls) st σ = ev 77 22 (some (.ref x) :: ls) (.ref x :: st) σ := e_aload1 k77_21 rfl
theorem k77_22 : cod 77 22 = some (.iload_n 1, 1, 0, 0, 0, 0) := rfl
theorem e77_22 (a0 : Option Value) (x : Int32) (ls : mL) (st : List Value) (σ : mS) : ev 77 22 (a0 :: some (.int x) :: ls) st σ = ev 77 23 (a0 :: some (.int x) :: ls) (.int x :: st) σ := e_iload1 k77_22 rfl
theorem k77_23 : cod 77 23 = some (.iload 4, 2, 0, 0, 0, 0) := rfl
theorem e77_23 (a0 a1 a2 a3 : Option Value) (x : Int32) (ls : mL) (st : List Value) (σ : mS) : ev 77 23 (a0 :: a1 :: a2 :: a3 :: some (.int x) :: ls) st σ = ev 77 25 (a0 :: a1 :: a2 :: a3 :: some (.int x) :: ls) (.int x :: st) σ := e_iload0 k77_23 rfl
theorem k77_25 : cod 77 25 = some (.invokevirtual 126, 3, 78, 2, 0, 6) := rfl
theorem e77_25 (t : Nat) (x0 : Int32) (x1 : Int32) (ls : mL) (st : List Value) (σ : mS) (hm : mCat st ≤ 8) : ev 77 25 ls (.int x1 :: .int x0 :: .ref t :: st) σ = isC (σ.1 t) 6 ((evM 78 [.ref t, .int x0, .int x1] σ).bind fun z => ev 77 28 ls (z.1.toList ++ st) z.2) := e_callVK k77_25 (by decide) rfl ⟨hm, Nat.le_of_ble_eq_true rfl⟩
theorem k77_28 : cod 77 28 = some (.ifCond .eq (24), 3, 52, 0, 0, 0) := rfl
theorem e77_28 (x : Int32) (ls : mL) (st : List Value) (σ : mS) : ev 77 28 ls (.int x :: st) σ = if x = 0 then ev 77 52 ls st σ else ev 77 31 ls st σ := e_if_eq k77_28
theorem k77_31 : cod 77 31 = some (.aload_n 0, 1, 0, 0, 0, 0) := rfl
theorem e77_31 (x : Nat) (ls : mL) (st : List Value) (σ : mS) : ev 77 31 (some (.ref x) :: ls) st σ = ev 77 32 (some (.ref x) :: ls) (.ref x :: st) σ := e_aload1 k77_31 rfl
theorem k77_32 : cod 77 32 = some (.aload_n 0, 1, 0, 0, 0, 0) := rfl
theorem e77_32 (x : Nat) (ls : mL) (st : List Value) (σ : mS) : ev 77 32 (some (.ref x) :: ls) st σ = ev 77 33 (some (.ref x) :: ls) (.ref x :: st) σ := e_aload1 k77_32 rfl
theorem k77_33 : cod 77 33 = some (.iload_n 1, 1, 0, 0, 0, 0) := rfl
theorem e77_33 (a0 : Option Value) (x : Int32) (ls : mL) (st : List Value) (σ : mS) : ev 77 33 (a0 :: some (.int x) :: ls) st σ = ev 77 34 (a0 :: some (.int x) :: ls) (.int x :: st) σ := e_iload1 k77_33 rfl
theorem k77_34 : cod 77 34 = some (.iload 4, 2, 0, 0, 0, 0) := rfl
theorem e77_34 (a0 a1 a2 a3 : Option Value) (x : Int32) (ls : mL) (st : List Value) (σ : mS) : ev 77 34 (a0 :: a1 :: a2 :: a3 :: some (.int x) :: ls) st σ = ev 77 36 (a0 :: a1 :: a2 :: a3 :: some (.int x) :: ls) (.int x :: st) σ := e_iload0 k77_34 rfl
theorem k77_36 : cod 77 36 = some (.invokevirtual 92, 3, 64, 2, 0, 6) := rfl
theorem e77_36 (t : Nat) (x0 : Int32) (x1 : Int32) (ls : mL) (st : List Value) (σ : mS) (hm : mCat st ≤ 8) : ev 77 36 ls (.int x1 :: .int x0 :: .ref t :: st) σ = isC (σ.1 t) 6 ((evM 64 [.ref t, .int x0, .int x1] σ).bind fun z => ev 77 39 ls (z.1.toList ++ st) z.2) := e_callVK k77_36 (by decide) rfl ⟨hm, Nat.le_of_ble_eq_true rfl⟩
theorem k77_39 : cod 77 39 = some (.iload_n 2, 1, 0, 0, 0, 0) := rfl
theorem e77_39 (a0 a1 : Option Value) (x : Int32) (ls : mL) (st : List Value) (σ : mS) : ev 77 39 (a0 :: a1 :: some (.int x) :: ls) st σ = ev 77 40 (a0 :: a1 :: some (.int x) :: ls) (.int x :: st) σ := e_iload1 k77_39 rfl
theorem k77_40 : cod 77 40 = some (.iload_n 3, 1, 0, 0, 0, 0) := rfl
theorem e77_40 (a0 a1 a2 : Option Value) (x : Int32) (ls : mL) (st : List Value) (σ : mS) : ev 77 40 (a0 :: a1 :: a2 :: some (.int x) :: ls) st σ = ev 77 41 (a0 :: a1 :: a2 :: some (.int x) :: ls) (.int x :: st) σ := e_iload1 k77_40 rfl
theorem k77_41 : cod 77 41 = some (.iconst 1, 1, 0, 0, 0, 0) := rfl
theorem e77_41 (ls : mL) (st : List Value) (σ : mS) : ev 77 41 ls st σ = ev 77 42 ls (.int 1 :: st) σ := e_iconst 1 k77_41 (by decide)
theorem k77_42 : cod 77 42 = some (.isub, 1, 0, 0, 0, 0) := rfl
theorem e77_42 (x y : Int32) (ls : mL) (st : List Value) (σ : mS) : ev 77 42 ls (.int y :: .int x :: st) σ = ev 77 43 ls (.int (x - y) :: st) σ := e_isub k77_42
theorem k77_43 : cod 77 43 = some (.invokevirtual 129, 3, 79, 3, 0, 6) := rfl
theorem e77_43 (t : Nat) (x0 : Int32) (x1 : Int32) (x2 : Int32) (ls : mL) (st : List Value) (σ : mS) (hm : mCat st ≤ 8) : ev 77 43 ls (.int x2 :: .int x1 :: .int x0 :: .ref t :: st) σ = isC (σ.1 t) 6 ((evM 79 [.ref t, .int x0, .int x1, .int x2] σ).bind fun z => ev 77 46 ls (z.1.toList ++ st) z.2) := e_callVK k77_43 (by decide) rfl ⟨hm, Nat.le_of_ble_eq_true rfl⟩
theorem k77_46 : cod 77 46 = some (.ifCond .eq (6), 3, 52, 0, 0, 0) := rfl
theorem e77_46 (x : Int32) (ls : mL) (st : List Value) (σ : mS) : ev 77 46 ls (.int x :: st) σ = if x = 0 then ev 77 52 ls st σ else ev 77 49 ls st σ := e_if_eq k77_46
theorem k77_49 : cod 77 49 = some (.iload 4, 2, 0, 0, 0, 0) := rfl
theorem e77_49 (a0 a1 a2 a3 : Option Value) (x : Int32) (ls : mL) (st : List Value) (σ : mS) : ev 77 49 (a0 :: a1 :: a2 :: a3 :: some (.int x) :: ls) st σ = ev 77 51 (a0 :: a1 :: a2 :: a3 :: some (.int x) :: ls) (.int x :: st) σ := e_iload0 k77_49 rfl
theorem k77_51 : cod 77 51 = some (.ireturn, 1, 0, 0, 0, 0) := rfl
theorem e77_51 (x : Int32) (ls : mL) (σ : mS) : ev 77 51 ls [.int x] σ = some (some (.int x), σ) := e_iret k77_51 rfl
theorem k77_52 : cod 77 52 = some (.iinc 4 (1), 3, 0, 0, 0, 0) := rfl
theorem e77_52i (a0 a1 a2 : Option Value) (y : Int32) (x : Int32) (ls : mL) (st : List Value) (σ : mS) : ev 77 52 (a0 :: a1 :: a2 :: some (.int y) :: some (.int x) :: ls) st σ = ev 77 55 (a0 :: a1 :: a2 :: some (.int y) :: some (.int (x + 1)) :: ls) st σ := e_iinc 1 k77_52 (by decide) rfl
theorem e77_52n (a0 a1 a2 : Option Value) (x : Int32) (ls : mL) (st : List Value) (σ : mS) : ev 77 52 (a0 :: a1 :: a2 :: none :: some (.int x) :: ls) st σ = ev 77 55 (a0 :: a1 :: a2 :: none :: some (.int (x + 1)) :: ls) st σ := e_iinc 1 k77_52 (by decide) rfl
theorem e77_52r (a0 a1 a2 : Option Value) (y : Nat) (x : Int32) (ls : mL) (st : List Value) (σ : mS) : ev 77 52 (a0 :: a1 :: a2 :: some (.ref y) :: some (.int x) :: ls) st σ = ev 77 55 (a0 :: a1 :: a2 :: some (.ref y) :: some (.int (x + 1)) :: ls) st σ := e_iinc 1 k77_52 (by decide) rfl
theorem k77_55 : cod 77 55 = some (.goto (-45), 3, 10, 0, 0, 0) := rfl
theorem e77_55 (ls : mL) (st : List Value) (σ : mS) : ev 77 55 ls st σ = ev 77 10 ls st σ := e_goto k77_55
theorem k77_58 : cod 77 58 = some (.bipush (-9), 2, 0, 0, 0, 0) := rfl
theorem e77_58 (ls : mL) (st : List Value) (σ : mS) : ev 77 58 ls st σ = ev 77 60 ls (.int (-9) :: st) σ := e_bipush (-9) k77_58 (by decide)
theorem k77_60 : cod 77 60 = some (.ireturn, 1, 0, 0, 0, 0) := rfl
theorem e77_60 (x : Int32) (ls : mL) (σ : mS) : ev 77 60 ls [.int x] σ = some (some (.int x), σ) := e_iret k77_60 rfl
theorem m77 (t : Nat) (x0 : Int32) (x1 : Int32) (σ : mS) : evM 77 [.ref t, .int x0, .int x1] σ = ev 77 0 [some (.ref t), some (.int x0), some (.int x1), none, none] [] σ := rfl
theorem k78_0 : cod 78 0 = some (.aload_n 0, 1, 0, 0, 0, 0) := rfl
theorem e78_0 (x : Nat) (ls : mL) (st : List Value) (σ : mS) : ev 78 0 (some (.ref x) :: ls) st σ = ev 78 1 (some (.ref x) :: ls) (.ref x :: st) σ := e_aload1 k78_0 rfl
theorem k78_1 : cod 78 1 = some (.iload_n 1, 1, 0, 0, 0, 0) := rfl
theorem e78_1 (a0 : Option Value) (x : Int32) (ls : mL) (st : List Value) (σ : mS) : ev 78 1 (a0 :: some (.int x) :: ls) st σ = ev 78 2 (a0 :: some (.int x) :: ls) (.int x :: st) σ := e_iload1 k78_1 rfl
theorem k78_2 : cod 78 2 = some (.invokevirtual 95, 3, 74, 1, 0, 6) := rfl
theorem e78_2 (t : Nat) (x0 : Int32) (ls : mL) (st : List Value) (σ : mS) (hm : mCat st ≤ 8) : ev 78 2 ls (.int x0 :: .ref t :: st) σ = isC (σ.1 t) 6 ((evM 74 [.ref t, .int x0] σ).bind fun z => ev 78 5 ls (z.1.toList ++ st) z.2) := e_callVK k78_2 (by decide) rfl ⟨hm, Nat.le_of_ble_eq_true rfl⟩
theorem k78_5 : cod 78 5 = some (.iload_n 2, 1, 0, 0, 0, 0) := rfl
theorem e78_5 (a0 a1 : Option Value) (x : Int32) (ls : mL) (st : List Value) (σ : mS) : ev 78 5 (a0 :: a1 :: some (.int x) :: ls) st σ = ev 78 6 (a0 :: a1 :: some (.int x) :: ls) (.int x :: st) σ := e_iload1 k78_5 rfl
theorem k78_6 : cod 78 6 = some (.invokestatic 74, 3, 84, 2, 1, 0) := rfl
theorem e78_6 (x0 : Int32) (x1 : Int32) (ls : mL) (st : List Value) (σ : mS) (hm : mCat st ≤ 8) : ev 78 6 ls (.int x1 :: .int x0 :: st) σ = (evM 84 [.int x0, .int x1] σ).bind fun z => ev 78 9 ls (z.1.toList ++ st) z.2 := e_callS k78_6 (by decide) rfl ⟨hm, Nat.le_of_ble_eq_true rfl⟩
theorem k78_9 : cod 78 9 = some (.ireturn, 1, 0, 0, 0, 0) := rfl
theorem e78_9 (x : Int32) (ls : mL) (σ : mS) : ev 78 9 ls [.int x] σ = if x = 0 ∨ x = 1 then some (some (.int x), σ) else none := e_zret k78_9 rfl
theorem e78_9b0 (ls : mL) (σ : mS) : ev 78 9 ls [.int 0] σ = some (some (.int 0), σ) := (e_zret k78_9 rfl).trans (if_pos (Or.inl rfl))
theorem e78_9b1 (ls : mL) (σ : mS) : ev 78 9 ls [.int 1] σ = some (some (.int 1), σ) := (e_zret k78_9 rfl).trans (if_pos (Or.inr rfl))
theorem m78 (t : Nat) (x0 : Int32) (x1 : Int32) (σ : mS) : evM 78 [.ref t, .int x0, .int x1] σ = ev 78 0 [some (.ref t), some (.int x0), some (.int x1)] [] σ := rfl
theorem k79_0 : cod 79 0 = some (.iconst 0, 1, 0, 0, 0, 0) := rfl
theorem e79_0 (ls : mL) (st : List Value) (σ : mS) : ev 79 0 ls st σ = ev 79 1 ls (.int 0 :: st) σ := e_iconst 0 k79_0 (by decide)
theorem k79_1 : cod 79 1 = some (.istore 4, 2, 0, 0, 0, 0) := rfl
theorem e79_1i (a0 a1 a2 : Option Value) (y : Int32) (o : Option Value) (x : Int32) (ls : mL) (st : List Value) (σ : mS) : ev 79 1 (a0 :: a1 :: a2 :: some (.int y) :: o :: ls) (.int x :: st) σ = ev 79 3 (a0 :: a1 :: a2 :: some (.int y) :: some (.int x) :: ls) st σ := e_istore0 k79_1 (Nat.le_add_left 5 ls.length)
theorem e79_1n (a0 a1 a2 : Option Value) (o : Option Value) (x : Int32) (ls : mL) (st : List Value) (σ : mS) : ev 79 1 (a0 :: a1 :: a2 :: none :: o :: ls) (.int x :: st) σ = ev 79 3 (a0 :: a1 :: a2 :: none :: some (.int x) :: ls) st σ := e_istore0 k79_1 (Nat.le_add_left 5 ls.length)
theorem e79_1r (a0 a1 a2 : Option Value) (y : Nat) (o : Option Value) (x : Int32) (ls : mL) (st : List Value) (σ : mS) : ev 79 1 (a0 :: a1 :: a2 :: some (.ref y) :: o :: ls) (.int x :: st) σ = ev 79 3 (a0 :: a1 :: a2 :: some (.ref y) :: some (.int x) :: ls) st σ := e_istore0 k79_1 (Nat.le_add_left 5 ls.length)
theorem k79_3 : cod 79 3 = some (.iload 4, 2, 0, 0, 0, 0) := rfl
theorem e79_3 (a0 a1 a2 a3 : Option Value) (x : Int32) (ls : mL) (st : List Value) (σ : mS) : ev 79 3 (a0 :: a1 :: a2 :: a3 :: some (.int x) :: ls) st σ = ev 79 5 (a0 :: a1 :: a2 :: a3 :: some (.int x) :: ls) (.int x :: st) σ := e_iload0 k79_3 rfl
theorem k79_5 : cod 79 5 = some (.bipush (16), 2, 0, 0, 0, 0) := rfl
theorem e79_5 (ls : mL) (st : List Value) (σ : mS) : ev 79 5 ls st σ = ev 79 7 ls (.int 16 :: st) σ := e_bipush 16 k79_5 (by decide)
theorem k79_7 : cod 79 7 = some (.if_icmp .ge (35), 3, 42, 0, 0, 0) := rfl
theorem e79_7 (x y : Int32) (ls : mL) (st : List Value) (σ : mS) : ev 79 7 ls (.int y :: .int x :: st) σ = if y ≤ x then ev 79 42 ls st σ else ev 79 10 ls st σ := e_ic_ge k79_7
theorem k79_10 : cod 79 10 = some (.iload_n 1, 1, 0, 0, 0, 0) := rfl
theorem e79_10 (a0 : Option Value) (x : Int32) (ls : mL) (st : List Value) (σ : mS) : ev 79 10 (a0 :: some (.int x) :: ls) st σ = ev 79 11 (a0 :: some (.int x) :: ls) (.int x :: st) σ := e_iload1 k79_10 rfl
theorem k79_11 : cod 79 11 = some (.iload 4, 2, 0, 0, 0, 0) := rfl
theorem e79_11 (a0 a1 a2 a3 : Option Value) (x : Int32) (ls : mL) (st : List Value) (σ : mS) : ev 79 11 (a0 :: a1 :: a2 :: a3 :: some (.int x) :: ls) st σ = ev 79 13 (a0 :: a1 :: a2 :: a3 :: some (.int x) :: ls) (.int x :: st) σ := e_iload0 k79_11 rfl
theorem k79_13 : cod 79 13 = some (.invokestatic 74, 3, 84, 2, 1, 0) := rfl
theorem e79_13 (x0 : Int32) (x1 : Int32) (ls : mL) (st : List Value) (σ : mS) (hm : mCat st ≤ 8) : ev 79 13 ls (.int x1 :: .int x0 :: st) σ = (evM 84 [.int x0, .int x1] σ).bind fun z => ev 79 16 ls (z.1.toList ++ st) z.2 := e_callS k79_13 (by decide) rfl ⟨hm, Nat.le_of_ble_eq_true rfl⟩
theorem k79_16 : cod 79 16 = some (.ifCond .eq (20), 3, 36, 0, 0, 0) := rfl
theorem e79_16 (x : Int32) (ls : mL) (st : List Value) (σ : mS) : ev 79 16 ls (.int x :: st) σ = if x = 0 then ev 79 36 ls st σ else ev 79 19 ls st σ := e_if_eq k79_16
theorem k79_19 : cod 79 19 = some (.aload_n 0, 1, 0, 0, 0, 0) := rfl
theorem e79_19 (x : Nat) (ls : mL) (st : List Value) (σ : mS) : ev 79 19 (some (.ref x) :: ls) st σ = ev 79 20 (some (.ref x) :: ls) (.ref x :: st) σ := e_aload1 k79_19 rfl
theorem k79_20 : cod 79 20 = some (.iload 4, 2, 0, 0, 0, 0) := rfl
theorem e79_20 (a0 a1 a2 a3 : Option Value) (x : Int32) (ls : mL) (st : List Value) (σ : mS) : ev 79 20 (a0 :: a1 :: a2 :: a3 :: some (.int x) :: ls) st σ = ev 79 22 (a0 :: a1 :: a2 :: a3 :: some (.int x) :: ls) (.int x :: st) σ := e_iload0 k79_20 rfl
theorem k79_22 : cod 79 22 = some (.iload_n 2, 1, 0, 0, 0, 0) := rfl
theorem e79_22 (a0 a1 : Option Value) (x : Int32) (ls : mL) (st : List Value) (σ : mS) : ev 79 22 (a0 :: a1 :: some (.int x) :: ls) st σ = ev 79 23 (a0 :: a1 :: some (.int x) :: ls) (.int x :: st) σ := e_iload1 k79_22 rfl
theorem k79_23 : cod 79 23 = some (.invokevirtual 123, 3, 76, 2, 0, 6) := rfl
theorem e79_23 (t : Nat) (x0 : Int32) (x1 : Int32) (ls : mL) (st : List Value) (σ : mS) (hm : mCat st ≤ 8) : ev 79 23 ls (.int x1 :: .int x0 :: .ref t :: st) σ = isC (σ.1 t) 6 ((evM 76 [.ref t, .int x0, .int x1] σ).bind fun z => ev 79 26 ls (z.1.toList ++ st) z.2) := e_callVK k79_23 (by decide) rfl ⟨hm, Nat.le_of_ble_eq_true rfl⟩
theorem k79_26 : cod 79 26 = some (.iconst 0, 1, 0, 0, 0, 0) := rfl
theorem e79_26 (ls : mL) (st : List Value) (σ : mS) : ev 79 26 ls st σ = ev 79 27 ls (.int 0 :: st) σ := e_iconst 0 k79_26 (by decide)
theorem k79_27 : cod 79 27 = some (.iload_n 3, 1, 0, 0, 0, 0) := rfl
theorem e79_27 (a0 a1 a2 : Option Value) (x : Int32) (ls : mL) (st : List Value) (σ : mS) : ev 79 27 (a0 :: a1 :: a2 :: some (.int x) :: ls) st σ = ev 79 28 (a0 :: a1 :: a2 :: some (.int x) :: ls) (.int x :: st) σ := e_iload1 k79_27 rfl
theorem k79_28 : cod 79 28 = some (.invokestatic 70, 3, 87, 3, 1, 0) := rfl
theorem e79_28 (x0 : Int32) (x1 : Int32) (x2 : Int32) (ls : mL) (st : List Value) (σ : mS) (hm : mCat st ≤ 8) : ev 79 28 ls (.int x2 :: .int x1 :: .int x0 :: st) σ = (evM 87 [.int x0, .int x1, .int x2] σ).bind fun z => ev 79 31 ls (z.1.toList ++ st) z.2 := e_callS k79_28 (by decide) rfl ⟨hm, Nat.le_of_ble_eq_true rfl⟩
theorem k79_31 : cod 79 31 = some (.ifCond .ne (5), 3, 36, 0, 0, 0) := rfl
theorem e79_31 (x : Int32) (ls : mL) (st : List Value) (σ : mS) : ev 79 31 ls (.int x :: st) σ = if x = 0 then ev 79 34 ls st σ else ev 79 36 ls st σ := e_if_ne k79_31
theorem k79_34 : cod 79 34 = some (.iconst 0, 1, 0, 0, 0, 0) := rfl
theorem e79_34 (ls : mL) (st : List Value) (σ : mS) : ev 79 34 ls st σ = ev 79 35 ls (.int 0 :: st) σ := e_iconst 0 k79_34 (by decide)
theorem k79_35 : cod 79 35 = some (.ireturn, 1, 0, 0, 0, 0) := rfl
theorem e79_35 (x : Int32) (ls : mL) (σ : mS) : ev 79 35 ls [.int x] σ = if x = 0 ∨ x = 1 then some (some (.int x), σ) else none := e_zret k79_35 rfl
theorem e79_35b0 (ls : mL) (σ : mS) : ev 79 35 ls [.int 0] σ = some (some (.int 0), σ) := (e_zret k79_35 rfl).trans (if_pos (Or.inl rfl))
theorem e79_35b1 (ls : mL) (σ : mS) : ev 79 35 ls [.int 1] σ = some (some (.int 1), σ) := (e_zret k79_35 rfl).trans (if_pos (Or.inr rfl))
theorem k79_36 : cod 79 36 = some (.iinc 4 (1), 3, 0, 0, 0, 0) := rfl
theorem e79_36i (a0 a1 a2 : Option Value) (y : Int32) (x : Int32) (ls : mL) (st : List Value) (σ : mS) : ev 79 36 (a0 :: a1 :: a2 :: some (.int y) :: some (.int x) :: ls) st σ = ev 79 39 (a0 :: a1 :: a2 :: some (.int y) :: some (.int (x + 1)) :: ls) st σ := e_iinc 1 k79_36 (by decide) rfl
theorem e79_36n (a0 a1 a2 : Option Value) (x : Int32) (ls : mL) (st : List Value) (σ : mS) : ev 79 36 (a0 :: a1 :: a2 :: none :: some (.int x) :: ls) st σ = ev 79 39 (a0 :: a1 :: a2 :: none :: some (.int (x + 1)) :: ls) st σ := e_iinc 1 k79_36 (by decide) rfl
theorem e79_36r (a0 a1 a2 : Option Value) (y : Nat) (x : Int32) (ls : mL) (st : List Value) (σ : mS) : ev 79 36 (a0 :: a1 :: a2 :: some (.ref y) :: some (.int x) :: ls) st σ = ev 79 39 (a0 :: a1 :: a2 :: some (.ref y) :: some (.int (x + 1)) :: ls) st σ := e_iinc 1 k79_36 (by decide) rfl
theorem k79_39 : cod 79 39 = some (.goto (-36), 3, 3, 0, 0, 0) := rfl
theorem e79_39 (ls : mL) (st : List Value) (σ : mS) : ev 79 39 ls st σ = ev 79 3 ls st σ := e_goto k79_39
theorem k79_42 : cod 79 42 = some (.iconst 1, 1, 0, 0, 0, 0) := rfl
theorem e79_42 (ls : mL) (st : List Value) (σ : mS) : ev 79 42 ls st σ = ev 79 43 ls (.int 1 :: st) σ := e_iconst 1 k79_42 (by decide)
theorem k79_43 : cod 79 43 = some (.ireturn, 1, 0, 0, 0, 0) := rfl
theorem e79_43 (x : Int32) (ls : mL) (σ : mS) : ev 79 43 ls [.int x] σ = if x = 0 ∨ x = 1 then some (some (.int x), σ) else none := e_zret k79_43 rfl
theorem e79_43b0 (ls : mL) (σ : mS) : ev 79 43 ls [.int 0] σ = some (some (.int 0), σ) := (e_zret k79_43 rfl).trans (if_pos (Or.inl rfl))
theorem e79_43b1 (ls : mL) (σ : mS) : ev 79 43 ls [.int 1] σ = some (some (.int 1), σ) := (e_zret k79_43 rfl).trans (if_pos (Or.inr rfl))
theorem m79 (t : Nat) (x0 : Int32) (x1 : Int32) (x2 : Int32) (σ : mS) : evM 79 [.ref t, .int x0, .int x1, .int x2] σ = ev 79 0 [some (.ref t), some (.int x0), some (.int x1), some (.int x2), none] [] σ := rfl
theorem k80_0 : cod 80 0 = some (.bipush (-9), 2, 0, 0, 0, 0) := rfl
theorem e80_0 (ls : mL) (st : List Value) (σ : mS) : ev 80 0 ls st σ = ev 80 2 ls (.int (-9) :: st) σ := e_bipush (-9) k80_0 (by decide)
theorem k80_2 : cod 80 2 = some (.istore_n 2, 1, 0, 0, 0, 0) := rfl
theorem e80_2i (a0 : Option Value) (y : Int32) (o : Option Value) (x : Int32) (ls : mL) (st : List Value) (σ : mS) : ev 80 2 (a0 :: some (.int y) :: o :: ls) (.int x :: st) σ = ev 80 3 (a0 :: some (.int y) :: some (.int x) :: ls) st σ := e_istore1 k80_2 (Nat.le_add_left 3 ls.length)
theorem e80_2n (a0 : Option Value) (o : Option Value) (x : Int32) (ls : mL) (st : List Value) (σ : mS) : ev 80 2 (a0 :: none :: o :: ls) (.int x :: st) σ = ev 80 3 (a0 :: none :: some (.int x) :: ls) st σ := e_istore1 k80_2 (Nat.le_add_left 3 ls.length)
theorem e80_2r (a0 : Option Value) (y : Nat) (o : Option Value) (x : Int32) (ls : mL) (st : List Value) (σ : mS) : ev 80 2 (a0 :: some (.ref y) :: o :: ls) (.int x :: st) σ = ev 80 3 (a0 :: some (.ref y) :: some (.int x) :: ls) st σ := e_istore1 k80_2 (Nat.le_add_left 3 ls.length)
theorem k80_3 : cod 80 3 = some (.iconst 0, 1, 0, 0, 0, 0) := rfl
theorem e80_3 (ls : mL) (st : List Value) (σ : mS) : ev 80 3 ls st σ = ev 80 4 ls (.int 0 :: st) σ := e_iconst 0 k80_3 (by decide)
theorem k80_4 : cod 80 4 = some (.istore_n 3, 1, 0, 0, 0, 0) := rfl
theorem e80_4i (a0 a1 : Option Value) (y : Int32) (o : Option Value) (x : Int32) (ls : mL) (st : List Value) (σ : mS) : ev 80 4 (a0 :: a1 :: some (.int y) :: o :: ls) (.int x :: st) σ = ev 80 5 (a0 :: a1 :: some (.int y) :: some (.int x) :: ls) st σ := e_istore1 k80_4 (Nat.le_add_left 4 ls.length)
theorem e80_4n (a0 a1 : Option Value) (o : Option Value) (x : Int32) (ls : mL) (st : List Value) (σ : mS) : ev 80 4 (a0 :: a1 :: none :: o :: ls) (.int x :: st) σ = ev 80 5 (a0 :: a1 :: none :: some (.int x) :: ls) st σ := e_istore1 k80_4 (Nat.le_add_left 4 ls.length)
theorem e80_4r (a0 a1 : Option Value) (y : Nat) (o : Option Value) (x : Int32) (ls : mL) (st : List Value) (σ : mS) : ev 80 4 (a0 :: a1 :: some (.ref y) :: o :: ls) (.int x :: st) σ = ev 80 5 (a0 :: a1 :: some (.ref y) :: some (.int x) :: ls) st σ := e_istore1 k80_4 (Nat.le_add_left 4 ls.length)
theorem k80_5 : cod 80 5 = some (.iconst 0, 1, 0, 0, 0, 0) := rfl
theorem e80_5 (ls : mL) (st : List Value) (σ : mS) : ev 80 5 ls st σ = ev 80 6 ls (.int 0 :: st) σ := e_iconst 0 k80_5 (by decide)
theorem k80_6 : cod 80 6 = some (.istore 4, 2, 0, 0, 0, 0) := rfl
theorem e80_6i (a0 a1 a2 : Option Value) (y : Int32) (o : Option Value) (x : Int32) (ls : mL) (st : List Value) (σ : mS) : ev 80 6 (a0 :: a1 :: a2 :: some (.int y) :: o :: ls) (.int x :: st) σ = ev 80 8 (a0 :: a1 :: a2 :: some (.int y) :: some (.int x) :: ls) st σ := e_istore0 k80_6 (Nat.le_add_left 5 ls.length)
theorem e80_6n (a0 a1 a2 : Option Value) (o : Option Value) (x : Int32) (ls : mL) (st : List Value) (σ : mS) : ev 80 6 (a0 :: a1 :: a2 :: none :: o :: ls) (.int x :: st) σ = ev 80 8 (a0 :: a1 :: a2 :: none :: some (.int x) :: ls) st σ := e_istore0 k80_6 (Nat.le_add_left 5 ls.length)
theorem e80_6r (a0 a1 a2 : Option Value) (y : Nat) (o : Option Value) (x : Int32) (ls : mL) (st : List Value) (σ : mS) : ev 80 6 (a0 :: a1 :: a2 :: some (.ref y) :: o :: ls) (.int x :: st) σ = ev 80 8 (a0 :: a1 :: a2 :: some (.ref y) :: some (.int x) :: ls) st σ := e_istore0 k80_6 (Nat.le_add_left 5 ls.length)
theorem k80_8 : cod 80 8 = some (.iload 4, 2, 0, 0, 0, 0) := rfl
theorem e80_8 (a0 a1 a2 a3 : Option Value) (x : Int32) (ls : mL) (st : List Value) (σ : mS) : ev 80 8 (a0 :: a1 :: a2 :: a3 :: some (.int x) :: ls) st σ = ev 80 10 (a0 :: a1 :: a2 :: a3 :: some (.int x) :: ls) (.int x :: st) σ := e_iload0 k80_8 rfl
theorem k80_10 : cod 80 10 = some (.bipush (8), 2, 0, 0, 0, 0) := rfl
theorem e80_10 (ls : mL) (st : List Value) (σ : mS) : ev 80 10 ls st σ = ev 80 12 ls (.int 8 :: st) σ := e_bipush 8 k80_10 (by decide)
theorem k80_12 : cod 80 12 = some (.if_icmp .ge (50), 3, 62, 0, 0, 0) := rfl
theorem e80_12 (x y : Int32) (ls : mL) (st : List Value) (σ : mS) : ev 80 12 ls (.int y :: .int x :: st) σ = if y ≤ x then ev 80 62 ls st σ else ev 80 15 ls st σ := e_ic_ge k80_12
theorem k80_15 : cod 80 15 = some (.aload_n 0, 1, 0, 0, 0, 0) := rfl
theorem e80_15 (x : Nat) (ls : mL) (st : List Value) (σ : mS) : ev 80 15 (some (.ref x) :: ls) st σ = ev 80 16 (some (.ref x) :: ls) (.ref x :: st) σ := e_aload1 k80_15 rfl
theorem k80_16 : cod 80 16 = some (.aload_n 0, 1, 0, 0, 0, 0) := rfl
theorem e80_16 (x : Nat) (ls : mL) (st : List Value) (σ : mS) : ev 80 16 (some (.ref x) :: ls) st σ = ev 80 17 (some (.ref x) :: ls) (.ref x :: st) σ := e_aload1 k80_16 rfl
theorem k80_17 : cod 80 17 = some (.iload_n 1, 1, 0, 0, 0, 0) := rfl
theorem e80_17 (a0 : Option Value) (x : Int32) (ls : mL) (st : List Value) (σ : mS) : ev 80 17 (a0 :: some (.int x) :: ls) st σ = ev 80 18 (a0 :: some (.int x) :: ls) (.int x :: st) σ := e_iload1 k80_17 rfl
theorem k80_18 : cod 80 18 = some (.iload 4, 2, 0, 0, 0, 0) := rfl
theorem e80_18 (a0 a1 a2 a3 : Option Value) (x : Int32) (ls : mL) (st : List Value) (σ : mS) : ev 80 18 (a0 :: a1 :: a2 :: a3 :: some (.int x) :: ls) st σ = ev 80 20 (a0 :: a1 :: a2 :: a3 :: some (.int x) :: ls) (.int x :: st) σ := e_iload0 k80_18 rfl
theorem k80_20 : cod 80 20 = some (.invokevirtual 92, 3, 64, 2, 0, 6) := rfl
theorem e80_20 (t : Nat) (x0 : Int32) (x1 : Int32) (ls : mL) (st : List Value) (σ : mS) (hm : mCat st ≤ 8) : ev 80 20 ls (.int x1 :: .int x0 :: .ref t :: st) σ = isC (σ.1 t) 6 ((evM 64 [.ref t, .int x0, .int x1] σ).bind fun z => ev 80 23 ls (z.1.toList ++ st) z.2) := e_callVK k80_20 (by decide) rfl ⟨hm, Nat.le_of_ble_eq_true rfl⟩
theorem k80_23 : cod 80 23 = some (.invokevirtual 132, 3, 81, 1, 0, 6) := rfl
theorem e80_23 (t : Nat) (x0 : Int32) (ls : mL) (st : List Value) (σ : mS) (hm : mCat st ≤ 8) : ev 80 23 ls (.int x0 :: .ref t :: st) σ = isC (σ.1 t) 6 ((evM 81 [.ref t, .int x0] σ).bind fun z => ev 80 26 ls (z.1.toList ++ st) z.2) := e_callVK k80_23 (by decide) rfl ⟨hm, Nat.le_of_ble_eq_true rfl⟩
theorem k80_26 : cod 80 26 = some (.istore 5, 2, 0, 0, 0, 0) := rfl
theorem e80_26i (a0 a1 a2 a3 : Option Value) (y : Int32) (o : Option Value) (x : Int32) (ls : mL) (st : List Value) (σ : mS) : ev 80 26 (a0 :: a1 :: a2 :: a3 :: some (.int y) :: o :: ls) (.int x :: st) σ = ev 80 28 (a0 :: a1 :: a2 :: a3 :: some (.int y) :: some (.int x) :: ls) st σ := e_istore0 k80_26 (Nat.le_add_left 6 ls.length)
theorem e80_26n (a0 a1 a2 a3 : Option Value) (o : Option Value) (x : Int32) (ls : mL) (st : List Value) (σ : mS) : ev 80 26 (a0 :: a1 :: a2 :: a3 :: none :: o :: ls) (.int x :: st) σ = ev 80 28 (a0 :: a1 :: a2 :: a3 :: none :: some (.int x) :: ls) st σ := e_istore0 k80_26 (Nat.le_add_left 6 ls.length)
theorem e80_26r (a0 a1 a2 a3 : Option Value) (y : Nat) (o : Option Value) (x : Int32) (ls : mL) (st : List Value) (σ : mS) : ev 80 26 (a0 :: a1 :: a2 :: a3 :: some (.ref y) :: o :: ls) (.int x :: st) σ = ev 80 28 (a0 :: a1 :: a2 :: a3 :: some (.ref y) :: some (.int x) :: ls) st σ := e_istore0 k80_26 (Nat.le_add_left 6 ls.length)
theorem k80_28 : cod 80 28 = some (.aload_n 0, 1, 0, 0, 0, 0) := rfl
theorem e80_28 (x : Nat) (ls : mL) (st : List Value) (σ : mS) : ev 80 28 (some (.ref x) :: ls) st σ = ev 80 29 (some (.ref x) :: ls) (.ref x :: st) σ := e_aload1 k80_28 rfl
theorem k80_29 : cod 80 29 = some (.iload_n 1, 1, 0, 0, 0, 0) := rfl
theorem e80_29 (a0 : Option Value) (x : Int32) (ls : mL) (st : List Value) (σ : mS) : ev 80 29 (a0 :: some (.int x) :: ls) st σ = ev 80 30 (a0 :: some (.int x) :: ls) (.int x :: st) σ := e_iload1 k80_29 rfl
theorem k80_30 : cod 80 30 = some (.iload 4, 2, 0, 0, 0, 0) := rfl
theorem e80_30 (a0 a1 a2 a3 : Option Value) (x : Int32) (ls : mL) (st : List Value) (σ : mS) : ev 80 30 (a0 :: a1 :: a2 :: a3 :: some (.int x) :: ls) st σ = ev 80 32 (a0 :: a1 :: a2 :: a3 :: some (.int x) :: ls) (.int x :: st) σ := e_iload0 k80_30 rfl
theorem k80_32 : cod 80 32 = some (.invokevirtual 80, 3, 62, 2, 0, 6) := rfl
theorem e80_32 (t : Nat) (x0 : Int32) (x1 : Int32) (ls : mL) (st : List Value) (σ : mS) (hm : mCat st ≤ 8) : ev 80 32 ls (.int x1 :: .int x0 :: .ref t :: st) σ = isC (σ.1 t) 6 ((evM 62 [.ref t, .int x0, .int x1] σ).bind fun z => ev 80 35 ls (z.1.toList ++ st) z.2) := e_callVK k80_32 (by decide) rfl ⟨hm, Nat.le_of_ble_eq_true rfl⟩
theorem k80_35 : cod 80 35 = some (.ifCond .le (21), 3, 56, 0, 0, 0) := rfl
theorem e80_35 (x : Int32) (ls : mL) (st : List Value) (σ : mS) : ev 80 35 ls (.int x :: st) σ = if x ≤ 0 then ev 80 56 ls st σ else ev 80 38 ls st σ := e_if_le k80_35
theorem k80_38 : cod 80 38 = some (.iload_n 2, 1, 0, 0, 0, 0) := rfl
theorem e80_38 (a0 a1 : Option Value) (x : Int32) (ls : mL) (st : List Value) (σ : mS) : ev 80 38 (a0 :: a1 :: some (.int x) :: ls) st σ = ev 80 39 (a0 :: a1 :: some (.int x) :: ls) (.int x :: st) σ := e_iload1 k80_38 rfl
theorem k80_39 : cod 80 39 = some (.bipush (-9), 2, 0, 0, 0, 0) := rfl
theorem e80_39 (ls : mL) (st : List Value) (σ : mS) : ev 80 39 ls st σ = ev 80 41 ls (.int (-9) :: st) σ := e_bipush (-9) k80_39 (by decide)
theorem k80_41 : cod 80 41 = some (.if_icmp .eq (9), 3, 50, 0, 0, 0) := rfl
theorem e80_41 (x y : Int32) (ls : mL) (st : List Value) (σ : mS) : ev 80 41 ls (.int y :: .int x :: st) σ = if x = y then ev 80 50 ls st σ else ev 80 44 ls st σ := e_ic_eq k80_41
theorem k80_44 : cod 80 44 = some (.iload 5, 2, 0, 0, 0, 0) := rfl
theorem e80_44 (a0 a1 a2 a3 a4 : Option Value) (x : Int32) (ls : mL) (st : List Value) (σ : mS) : ev 80 44 (a0 :: a1 :: a2 :: a3 :: a4 :: some (.int x) :: ls) st σ = ev 80 46 (a0 :: a1 :: a2 :: a3 :: a4 :: some (.int x) :: ls) (.int x :: st) σ := e_iload0 k80_44 rfl
theorem k80_46 : cod 80 46 = some (.iload_n 3, 1, 0, 0, 0, 0) := rfl
theorem e80_46 (a0 a1 a2 : Option Value) (x : Int32) (ls : mL) (st : List Value) (σ : mS) : ev 80 46 (a0 :: a1 :: a2 :: some (.int x) :: ls) st σ = ev 80 47 (a0 :: a1 :: a2 :: some (.int x) :: ls) (.int x :: st) σ := e_iload1 k80_46 rfl
theorem k80_47 : cod 80 47 = some (.if_icmp .le (9), 3, 56, 0, 0, 0) := rfl
theorem e80_47 (x y : Int32) (ls : mL) (st : List Value) (σ : mS) : ev 80 47 ls (.int y :: .int x :: st) σ = if x ≤ y then ev 80 56 ls st σ else ev 80 50 ls st σ := e_ic_le k80_47
theorem k80_50 : cod 80 50 = some (.iload 4, 2, 0, 0, 0, 0) := rfl
theorem e80_50 (a0 a1 a2 a3 : Option Value) (x : Int32) (ls : mL) (st : List Value) (σ : mS) : ev 80 50 (a0 :: a1 :: a2 :: a3 :: some (.int x) :: ls) st σ = ev 80 52 (a0 :: a1 :: a2 :: a3 :: some (.int x) :: ls) (.int x :: st) σ := e_iload0 k80_50 rfl
theorem k80_52 : cod 80 52 = some (.istore_n 2, 1, 0, 0, 0, 0) := rfl
theorem e80_52i (a0 : Option Value) (y : Int32) (o : Option Value) (x : Int32) (ls : mL) (st : List Value) (σ : mS) : ev 80 52 (a0 :: some (.int y) :: o :: ls) (.int x :: st) σ = ev 80 53 (a0 :: some (.int y) :: some (.int x) :: ls) st σ := e_istore1 k80_52 (Nat.le_add_left 3 ls.length)
theorem e80_52n (a0 : Option Value) (o : Option Value) (x : Int32) (ls : mL) (st : List Value) (σ : mS) : ev 80 52 (a0 :: none :: o :: ls) (.int x :: st) σ = ev 80 53 (a0 :: none :: some (.int x) :: ls) st σ := e_istore1 k80_52 (Nat.le_add_left 3 ls.length)
theorem e80_52r (a0 : Option Value) (y : Nat) (o : Option Value) (x : Int32) (ls : mL) (st : List Value) (σ : mS) : ev 80 52 (a0 :: some (.ref y) :: o :: ls) (.int x :: st) σ = ev 80 53 (a0 :: some (.ref y) :: some (.int x) :: ls) st σ := e_istore1 k80_52 (Nat.le_add_left 3 ls.length)
theorem k80_53 : cod 80 53 = some (.iload 5, 2, 0, 0, 0, 0) := rfl
theorem e80_53 (a0 a1 a2 a3 a4 : Option Value) (x : Int32) (ls : mL) (st : List Value) (σ : mS) : ev 80 53 (a0 :: a1 :: a2 :: a3 :: a4 :: some (.int x) :: ls) st σ = ev 80 55 (a0 :: a1 :: a2 :: a3 :: a4 :: some (.int x) :: ls) (.int x :: st) σ := e_iload0 k80_53 rfl
theorem k80_55 : cod 80 55 = some (.istore_n 3, 1, 0, 0, 0, 0) := rfl
theorem e80_55i (a0 a1 : Option Value) (y : Int32) (o : Option Value) (x : Int32) (ls : mL) (st : List Value) (σ : mS) : ev 80 55 (a0 :: a1 :: some (.int y) :: o :: ls) (.int x :: st) σ = ev 80 56 (a0 :: a1 :: some (.int y) :: some (.int x) :: ls) st σ := e_istore1 k80_55 (Nat.le_add_left 4 ls.length)
theorem e80_55n (a0 a1 : Option Value) (o : Option Value) (x : Int32) (ls : mL) (st : List Value) (σ : mS) : ev 80 55 (a0 :: a1 :: none :: o :: ls) (.int x :: st) σ = ev 80 56 (a0 :: a1 :: none :: some (.int x) :: ls) st σ := e_istore1 k80_55 (Nat.le_add_left 4 ls.length)
theorem e80_55r (a0 a1 : Option Value) (y : Nat) (o : Option Value) (x : Int32) (ls : mL) (st : List Value) (σ : mS) : ev 80 55 (a0 :: a1 :: some (.ref y) :: o :: ls) (.int x :: st) σ = ev 80 56 (a0 :: a1 :: some (.ref y) :: some (.int x) :: ls) st σ := e_istore1 k80_55 (Nat.le_add_left 4 ls.length)
theorem k80_56 : cod 80 56 = some (.iinc 4 (1), 3, 0, 0, 0, 0) := rfl
theorem e80_56i (a0 a1 a2 : Option Value) (y : Int32) (x : Int32) (ls : mL) (st : List Value) (σ : mS) : ev 80 56 (a0 :: a1 :: a2 :: some (.int y) :: some (.int x) :: ls) st σ = ev 80 59 (a0 :: a1 :: a2 :: some (.int y) :: some (.int (x + 1)) :: ls) st σ := e_iinc 1 k80_56 (by decide) rfl
theorem e80_56n (a0 a1 a2 : Option Value) (x : Int32) (ls : mL) (st : List Value) (σ : mS) : ev 80 56 (a0 :: a1 :: a2 :: none :: some (.int x) :: ls) st σ = ev 80 59 (a0 :: a1 :: a2 :: none :: some (.int (x + 1)) :: ls) st σ := e_iinc 1 k80_56 (by decide) rfl
theorem e80_56r (a0 a1 a2 : Option Value) (y : Nat) (x : Int32) (ls : mL) (st : List Value) (σ : mS) : ev 80 56 (a0 :: a1 :: a2 :: some (.ref y) :: some (.int x) :: ls) st σ = ev 80 59 (a0 :: a1 :: a2 :: some (.ref y) :: some (.int (x + 1)) :: ls) st σ := e_iinc 1 k80_56 (by decide) rfl
theorem k80_59 : cod 80 59 = some (.goto (-51), 3, 8, 0, 0, 0) := rfl
theorem e80_59 (ls : mL) (st : List Value) (σ : mS) : ev 80 59 ls st σ = ev 80 8 ls st σ := e_goto k80_59
theorem k80_62 : cod 80 62 = some (.iload_n 2, 1, 0, 0, 0, 0) := rfl
theorem e80_62 (a0 a1 : Option Value) (x : Int32) (ls : mL) (st : List Value) (σ : mS) : ev 80 62 (a0 :: a1 :: some (.int x) :: ls) st σ = ev 80 63 (a0 :: a1 :: some (.int x) :: ls) (.int x :: st) σ := e_iload1 k80_62 rfl
theorem k80_63 : cod 80 63 = some (.ireturn, 1, 0, 0, 0, 0) := rfl
theorem e80_63 (x : Int32) (ls : mL) (σ : mS) : ev 80 63 ls [.int x] σ = some (some (.int x), σ) := e_iret k80_63 rfl
theorem m80 (t : Nat) (x0 : Int32) (σ : mS) : evM 80 [.ref t, .int x0] σ = ev 80 0 [some (.ref t), some (.int x0), none, none, none, none] [] σ := rfl
theorem k81_0 : cod 81 0 = some (.bipush (17), 2, 0, 0, 0, 0) := rfl
theorem e81_0 (ls : mL) (st : List Value) (σ : mS) : ev 81 0 ls st σ = ev 81 2 ls (.int 17 :: st) σ := e_bipush 17 k81_0 (by decide)
theorem k81_2 : cod 81 2 = some (.istore_n 2, 1, 0, 0, 0, 0) := rfl
theorem e81_2i (a0 : Option Value) (y : Int32) (o : Option Value) (x : Int32) (ls : mL) (st : List Value) (σ : mS) : ev 81 2 (a0 :: some (.int y) :: o :: ls) (.int x :: st) σ = ev 81 3 (a0 :: some (.int y) :: some (.int x) :: ls) st σ := e_istore1 k81_2 (Nat.le_add_left 3 ls.length)
theorem e81_2n (a0 : Option Value) (o : Option Value) (x : Int32) (ls : mL) (st : List Value) (σ : mS) : ev 81 2 (a0 :: none :: o :: ls) (.int x :: st) σ = ev 81 3 (a0 :: none :: some (.int x) :: ls) st σ := e_istore1 k81_2 (Nat.le_add_left 3 ls.length)
theorem e81_2r (a0 : Option Value) (y : Nat) (o : Option Value) (x : Int32) (ls : mL) (st : List Value) (σ : mS) : ev 81 2 (a0 :: some (.ref y) :: o :: ls) (.int x :: st) σ = ev 81 3 (a0 :: some (.ref y) :: some (.int x) :: ls) st σ := e_istore1 k81_2 (Nat.le_add_left 3 ls.length)
theorem k81_3 : cod 81 3 = some (.iconst 0, 1, 0, 0, 0, 0) := rfl
theorem e81_3 (ls : mL) (st : List Value) (σ : mS) : ev 81 3 ls st σ = ev 81 4 ls (.int 0 :: st) σ := e_iconst 0 k81_3 (by decide)
theorem k81_4 : cod 81 4 = some (.istore_n 3, 1, 0, 0, 0, 0) := rfl
theorem e81_4i (a0 a1 : Option Value) (y : Int32) (o : Option Value) (x : Int32) (ls : mL) (st : List Value) (σ : mS) : ev 81 4 (a0 :: a1 :: some (.int y) :: o :: ls) (.int x :: st) σ = ev 81 5 (a0 :: a1 :: some (.int y) :: some (.int x) :: ls) st σ := e_istore1 k81_4 (Nat.le_add_left 4 ls.length)
theorem e81_4n (a0 a1 : Option Value) (o : Option Value) (x : Int32) (ls : mL) (st : List Value) (σ : mS) : ev 81 4 (a0 :: a1 :: none :: o :: ls) (.int x :: st) σ = ev 81 5 (a0 :: a1 :: none :: some (.int x) :: ls) st σ := e_istore1 k81_4 (Nat.le_add_left 4 ls.length)
theorem e81_4r (a0 a1 : Option Value) (y : Nat) (o : Option Value) (x : Int32) (ls : mL) (st : List Value) (σ : mS) : ev 81 4 (a0 :: a1 :: some (.ref y) :: o :: ls) (.int x :: st) σ = ev 81 5 (a0 :: a1 :: some (.ref y) :: some (.int x) :: ls) st σ := e_istore1 k81_4 (Nat.le_add_left 4 ls.length)
theorem k81_5 : cod 81 5 = some (.iload_n 3, 1, 0, 0, 0, 0) := rfl
theorem e81_5 (a0 a1 a2 : Option Value) (x : Int32) (ls : mL) (st : List Value) (σ : mS) : ev 81 5 (a0 :: a1 :: a2 :: some (.int x) :: ls) st σ = ev 81 6 (a0 :: a1 :: a2 :: some (.int x) :: ls) (.int x :: st) σ := e_iload1 k81_5 rfl
theorem k81_6 : cod 81 6 = some (.bipush (16), 2, 0, 0, 0, 0) := rfl
theorem e81_6 (ls : mL) (st : List Value) (σ : mS) : ev 81 6 ls st σ = ev 81 8 ls (.int 16 :: st) σ := e_bipush 16 k81_6 (by decide)
theorem k81_8 : cod 81 8 = some (.if_icmp .ge (37), 3, 45, 0, 0, 0) := rfl
theorem e81_8 (x y : Int32) (ls : mL) (st : List Value) (σ : mS) : ev 81 8 ls (.int y :: .int x :: st) σ = if y ≤ x then ev 81 45 ls st σ else ev 81 11 ls st σ := e_ic_ge k81_8
theorem k81_11 : cod 81 11 = some (.iload_n 1, 1, 0, 0, 0, 0) := rfl
theorem e81_11 (a0 : Option Value) (x : Int32) (ls : mL) (st : List Value) (σ : mS) : ev 81 11 (a0 :: some (.int x) :: ls) st σ = ev 81 12 (a0 :: some (.int x) :: ls) (.int x :: st) σ := e_iload1 k81_11 rfl
theorem k81_12 : cod 81 12 = some (.iload_n 3, 1, 0, 0, 0, 0) := rfl
theorem e81_12 (a0 a1 a2 : Option Value) (x : Int32) (ls : mL) (st : List Value) (σ : mS) : ev 81 12 (a0 :: a1 :: a2 :: some (.int x) :: ls) st σ = ev 81 13 (a0 :: a1 :: a2 :: some (.int x) :: ls) (.int x :: st) σ := e_iload1 k81_12 rfl
theorem k81_13 : cod 81 13 = some (.invokestatic 74, 3, 84, 2, 1, 0) := rfl
theorem e81_13 (x0 : Int32) (x1 : Int32) (ls : mL) (st : List Value) (σ : mS) (hm : mCat st ≤ 8) : ev 81 13 ls (.int x1 :: .int x0 :: st) σ = (evM 84 [.int x0, .int x1] σ).bind fun z => ev 81 16 ls (z.1.toList ++ st) z.2 := e_callS k81_13 (by decide) rfl ⟨hm, Nat.le_of_ble_eq_true rfl⟩
theorem k81_16 : cod 81 16 = some (.ifCond .eq (23), 3, 39, 0, 0, 0) := rfl
theorem e81_16 (x : Int32) (ls : mL) (st : List Value) (σ : mS) : ev 81 16 ls (.int x :: st) σ = if x = 0 then ev 81 39 ls st σ else ev 81 19 ls st σ := e_if_eq k81_16
theorem k81_19 : cod 81 19 = some (.aload_n 0, 1, 0, 0, 0, 0) := rfl
theorem e81_19 (x : Nat) (ls : mL) (st : List Value) (σ : mS) : ev 81 19 (some (.ref x) :: ls) st σ = ev 81 20 (some (.ref x) :: ls) (.ref x :: st) σ := e_aload1 k81_19 rfl
theorem k81_20 : cod 81 20 = some (.getfield 30, 3, 6, 13, 0, 3) := rfl
theorem e81_20 (t : Nat) (ls : mL) (st : List Value) (σ : mS) : ev 81 20 ls (.ref t :: st) σ = gfK (σ.1 t) 6 13 (fun v => ev 81 23 ls (v :: st) σ) := e_getf k81_20
theorem k81_23 : cod 81 23 = some (.iload_n 3, 1, 0, 0, 0, 0) := rfl
theorem e81_23 (a0 a1 a2 : Option Value) (x : Int32) (ls : mL) (st : List Value) (σ : mS) : ev 81 23 (a0 :: a1 :: a2 :: some (.int x) :: ls) st σ = ev 81 24 (a0 :: a1 :: a2 :: some (.int x) :: ls) (.int x :: st) σ := e_iload1 k81_23 rfl
theorem k81_24 : cod 81 24 = some (.iaload, 1, 0, 0, 0, 0) := rfl
theorem e81_24 (j : Int32) (t : Nat) (ls : mL) (st : List Value) (σ : mS) : ev 81 24 ls (.int j :: .ref t :: st) σ = alK (σ.1 t) 0 j (fun v => ev 81 25 ls (.int v :: st) σ) := e_iald k81_24
theorem k81_25 : cod 81 25 = some (.ifCond .lt (14), 3, 39, 0, 0, 0) := rfl
theorem e81_25 (x : Int32) (ls : mL) (st : List Value) (σ : mS) : ev 81 25 ls (.int x :: st) σ = if x < 0 then ev 81 39 ls st σ else ev 81 28 ls st σ := e_if_lt k81_25
theorem k81_28 : cod 81 28 = some (.iload_n 2, 1, 0, 0, 0, 0) := rfl
theorem e81_28 (a0 a1 : Option Value) (x : Int32) (ls : mL) (st : List Value) (σ : mS) : ev 81 28 (a0 :: a1 :: some (.int x) :: ls) st σ = ev 81 29 (a0 :: a1 :: some (.int x) :: ls) (.int x :: st) σ := e_iload1 k81_28 rfl
theorem k81_29 : cod 81 29 = some (.aload_n 0, 1, 0, 0, 0, 0) := rfl
theorem e81_29 (x : Nat) (ls : mL) (st : List Value) (σ : mS) : ev 81 29 (some (.ref x) :: ls) st σ = ev 81 30 (some (.ref x) :: ls) (.ref x :: st) σ := e_aload1 k81_29 rfl
theorem k81_30 : cod 81 30 = some (.getfield 30, 3, 6, 13, 0, 3) := rfl
theorem e81_30 (t : Nat) (ls : mL) (st : List Value) (σ : mS) : ev 81 30 ls (.ref t :: st) σ = gfK (σ.1 t) 6 13 (fun v => ev 81 33 ls (v :: st) σ) := e_getf k81_30
theorem k81_33 : cod 81 33 = some (.iload_n 3, 1, 0, 0, 0, 0) := rfl
theorem e81_33 (a0 a1 a2 : Option Value) (x : Int32) (ls : mL) (st : List Value) (σ : mS) : ev 81 33 (a0 :: a1 :: a2 :: some (.int x) :: ls) st σ = ev 81 34 (a0 :: a1 :: a2 :: some (.int x) :: ls) (.int x :: st) σ := e_iload1 k81_33 rfl
theorem k81_34 : cod 81 34 = some (.iaload, 1, 0, 0, 0, 0) := rfl
theorem e81_34 (j : Int32) (t : Nat) (ls : mL) (st : List Value) (σ : mS) : ev 81 34 ls (.int j :: .ref t :: st) σ = alK (σ.1 t) 0 j (fun v => ev 81 35 ls (.int v :: st) σ) := e_iald k81_34
theorem k81_35 : cod 81 35 = some (.invokestatic 83, 3, 0, 0, 5, 1) := rfl
theorem e81_35 (x y : Int32) (ls : mL) (st : List Value) (σ : mS) (hz : mCat st ≤ 8) : ev 81 35 ls (.int y :: .int x :: st) σ = ev 81 38 ls (.int (if y < x then y else x) :: st) σ := e_min k81_35 hz
theorem k81_38 : cod 81 38 = some (.istore_n 2, 1, 0, 0, 0, 0) := rfl
theorem e81_38i (a0 : Option Value) (y : Int32) (o : Option Value) (x : Int32) (ls : mL) (st : List Value) (σ : mS) : ev 81 38 (a0 :: some (.int y) :: o :: ls) (.int x :: st) σ = ev 81 39 (a0 :: some (.int y) :: some (.int x) :: ls) st σ := e_istore1 k81_38 (Nat.le_add_left 3 ls.length)
theorem e81_38n (a0 : Option Value) (o : Option Value) (x : Int32) (ls : mL) (st : List Value) (σ : mS) : ev 81 38 (a0 :: none :: o :: ls) (.int x :: st) σ = ev 81 39 (a0 :: none :: some (.int x) :: ls) st σ := e_istore1 k81_38 (Nat.le_add_left 3 ls.length)
theorem e81_38r (a0 : Option Value) (y : Nat) (o : Option Value) (x : Int32) (ls : mL) (st : List Value) (σ : mS) : ev 81 38 (a0 :: some (.ref y) :: o :: ls) (.int x :: st) σ = ev 81 39 (a0 :: some (.ref y) :: some (.int x) :: ls) st σ := e_istore1 k81_38 (Nat.le_add_left 3 ls.length)
theorem k81_39 : cod 81 39 = some (.iinc 3 (1), 3, 0, 0, 0, 0) := rfl
theorem e81_39i (a0 a1 : Option Value) (y : Int32) (x : Int32) (ls : mL) (st : List Value) (σ : mS) : ev 81 39 (a0 :: a1 :: some (.int y) :: some (.int x) :: ls) st σ = ev 81 42 (a0 :: a1 :: some (.int y) :: some (.int (x + 1)) :: ls) st σ := e_iinc 1 k81_39 (by decide) rfl
theorem e81_39n (a0 a1 : Option Value) (x : Int32) (ls : mL) (st : List Value) (σ : mS) : ev 81 39 (a0 :: a1 :: none :: some (.int x) :: ls) st σ = ev 81 42 (a0 :: a1 :: none :: some (.int (x + 1)) :: ls) st σ := e_iinc 1 k81_39 (by decide) rfl
theorem e81_39r (a0 a1 : Option Value) (y : Nat) (x : Int32) (ls : mL) (st : List Value) (σ : mS) : ev 81 39 (a0 :: a1 :: some (.ref y) :: some (.int x) :: ls) st σ = ev 81 42 (a0 :: a1 :: some (.ref y) :: some (.int (x + 1)) :: ls) st σ := e_iinc 1 k81_39 (by decide) rfl
theorem k81_42 : cod 81 42 = some (.goto (-37), 3, 5, 0, 0, 0) := rfl
theorem e81_42 (ls : mL) (st : List Value) (σ : mS) : ev 81 42 ls st σ = ev 81 5 ls st σ := e_goto k81_42
theorem k81_45 : cod 81 45 = some (.iload_n 2, 1, 0, 0, 0, 0) := rfl
theorem e81_45 (a0 a1 : Option Value) (x : Int32) (ls : mL) (st : List Value) (σ : mS) : ev 81 45 (a0 :: a1 :: some (.int x) :: ls) st σ = ev 81 46 (a0 :: a1 :: some (.int x) :: ls) (.int x :: st) σ := e_iload1 k81_45 rfl
theorem k81_46 : cod 81 46 = some (.ireturn, 1, 0, 0, 0, 0) := rfl
theorem e81_46 (x : Int32) (ls : mL) (σ : mS) : ev 81 46 ls [.int x] σ = some (some (.int x), σ) := e_iret k81_46 rfl
theorem m81 (t : Nat) (x0 : Int32) (σ : mS) : evM 81 [.ref t, .int x0] σ = ev 81 0 [some (.ref t), some (.int x0), none, none] [] σ := rfl
theorem k82_0 : cod 82 0 = some (.aload_n 0, 1, 0, 0, 0, 0) := rfl
theorem e82_0 (x : Nat) (ls : mL) (st : List Value) (σ : mS) : ev 82 0 (some (.ref x) :: ls) st σ = ev 82 1 (some (.ref x) :: ls) (.ref x :: st) σ := e_aload1 k82_0 rfl
theorem k82_1 : cod 82 1 = some (.iload_n 1, 1, 0, 0, 0, 0) := rfl
theorem e82_1 (a0 : Option Value) (x : Int32) (ls : mL) (st : List Value) (σ : mS) : ev 82 1 (a0 :: some (.int x) :: ls) st σ = ev 82 2 (a0 :: some (.int x) :: ls) (.int x :: st) σ := e_iload1 k82_1 rfl
theorem k82_2 : cod 82 2 = some (.iload_n 2, 1, 0, 0, 0, 0) := rfl
theorem e82_2 (a0 a1 : Option Value) (x : Int32) (ls : mL) (st : List Value) (σ : mS) : ev 82 2 (a0 :: a1 :: some (.int x) :: ls) st σ = ev 82 3 (a0 :: a1 :: some (.int x) :: ls) (.int x :: st) σ := e_iload1 k82_2 rfl
theorem k82_3 : cod 82 3 = some (.invokevirtual 80, 3, 62, 2, 0, 6) := rfl
theorem e82_3 (t : Nat) (x0 : Int32) (x1 : Int32) (ls : mL) (st : List Value) (σ : mS) (hm : mCat st ≤ 8) : ev 82 3 ls (.int x1 :: .int x0 :: .ref t :: st) σ = isC (σ.1 t) 6 ((evM 62 [.ref t, .int x0, .int x1] σ).bind fun z => ev 82 6 ls (z.1.toList ++ st) z.2) := e_callVK k82_3 (by decide) rfl ⟨hm, Nat.le_of_ble_eq_true rfl⟩
theorem k82_6 : cod 82 6 = some (.iconst 1, 1, 0, 0, 0, 0) := rfl
theorem e82_6 (ls : mL) (st : List Value) (σ : mS) : ev 82 6 ls st σ = ev 82 7 ls (.int 1 :: st) σ := e_iconst 1 k82_6 (by decide)
theorem k82_7 : cod 82 7 = some (.isub, 1, 0, 0, 0, 0) := rfl
theorem e82_7 (x y : Int32) (ls : mL) (st : List Value) (σ : mS) : ev 82 7 ls (.int y :: .int x :: st) σ = ev 82 8 ls (.int (x - y) :: st) σ := e_isub k82_7
theorem k82_8 : cod 82 8 = some (.istore 4, 2, 0, 0, 0, 0) := rfl
theorem e82_8i (a0 a1 a2 : Option Value) (y : Int32) (o : Option Value) (x : Int32) (ls : mL) (st : List Value) (σ : mS) : ev 82 8 (a0 :: a1 :: a2 :: some (.int y) :: o :: ls) (.int x :: st) σ = ev 82 10 (a0 :: a1 :: a2 :: some (.int y) :: some (.int x) :: ls) st σ := e_istore0 k82_8 (Nat.le_add_left 5 ls.length)
theorem e82_8n (a0 a1 a2 : Option Value) (o : Option Value) (x : Int32) (ls : mL) (st : List Value) (σ : mS) : ev 82 8 (a0 :: a1 :: a2 :: none :: o :: ls) (.int x :: st) σ = ev 82 10 (a0 :: a1 :: a2 :: none :: some (.int x) :: ls) st σ := e_istore0 k82_8 (Nat.le_add_left 5 ls.length)
theorem e82_8r (a0 a1 a2 : Option Value) (y : Nat) (o : Option Value) (x : Int32) (ls : mL) (st : List Value) (σ : mS) : ev 82 8 (a0 :: a1 :: a2 :: some (.ref y) :: o :: ls) (.int x :: st) σ = ev 82 10 (a0 :: a1 :: a2 :: some (.ref y) :: some (.int x) :: ls) st σ := e_istore0 k82_8 (Nat.le_add_left 5 ls.length)
theorem k82_10 : cod 82 10 = some (.iload 4, 2, 0, 0, 0, 0) := rfl
theorem e82_10 (a0 a1 a2 a3 : Option Value) (x : Int32) (ls : mL) (st : List Value) (σ : mS) : ev 82 10 (a0 :: a1 :: a2 :: a3 :: some (.int x) :: ls) st σ = ev 82 12 (a0 :: a1 :: a2 :: a3 :: some (.int x) :: ls) (.int x :: st) σ := e_iload0 k82_10 rfl
theorem k82_12 : cod 82 12 = some (.ifCond .ge (7), 3, 19, 0, 0, 0) := rfl
theorem e82_12 (x : Int32) (ls : mL) (st : List Value) (σ : mS) : ev 82 12 ls (.int x :: st) σ = if 0 ≤ x then ev 82 19 ls st σ else ev 82 15 ls st σ := e_if_ge k82_12
theorem k82_15 : cod 82 15 = some (.iload_n 1, 1, 0, 0, 0, 0) := rfl
theorem e82_15 (a0 : Option Value) (x : Int32) (ls : mL) (st : List Value) (σ : mS) : ev 82 15 (a0 :: some (.int x) :: ls) st σ = ev 82 16 (a0 :: some (.int x) :: ls) (.int x :: st) σ := e_iload1 k82_15 rfl
theorem k82_16 : cod 82 16 = some (.goto (15), 3, 31, 0, 0, 0) := rfl
theorem e82_16 (ls : mL) (st : List Value) (σ : mS) : ev 82 16 ls st σ = ev 82 31 ls st σ := e_goto k82_16
theorem k82_19 : cod 82 19 = some (.aload_n 0, 1, 0, 0, 0, 0) := rfl
theorem e82_19 (x : Nat) (ls : mL) (st : List Value) (σ : mS) : ev 82 19 (some (.ref x) :: ls) st σ = ev 82 20 (some (.ref x) :: ls) (.ref x :: st) σ := e_aload1 k82_19 rfl
theorem k82_20 : cod 82 20 = some (.iload_n 1, 1, 0, 0, 0, 0) := rfl
theorem e82_20 (a0 : Option Value) (x : Int32) (ls : mL) (st : List Value) (σ : mS) : ev 82 20 (a0 :: some (.int x) :: ls) st σ = ev 82 21 (a0 :: some (.int x) :: ls) (.int x :: st) σ := e_iload1 k82_20 rfl
theorem k82_21 : cod 82 21 = some (.iload_n 2, 1, 0, 0, 0, 0) := rfl
theorem e82_21 (a0 a1 : Option Value) (x : Int32) (ls : mL) (st : List Value) (σ : mS) : ev 82 21 (a0 :: a1 :: some (.int x) :: ls) st σ = ev 82 22 (a0 :: a1 :: some (.int x) :: ls) (.int x :: st) σ := e_iload1 k82_21 rfl
theorem k82_22 : cod 82 22 = some (.iload_n 3, 1, 0, 0, 0, 0) := rfl
theorem e82_22 (a0 a1 a2 : Option Value) (x : Int32) (ls : mL) (st : List Value) (σ : mS) : ev 82 22 (a0 :: a1 :: a2 :: some (.int x) :: ls) st σ = ev 82 23 (a0 :: a1 :: a2 :: some (.int x) :: ls) (.int x :: st) σ := e_iload1 k82_22 rfl
theorem k82_23 : cod 82 23 = some (.iload 4, 2, 0, 0, 0, 0) := rfl
theorem e82_23 (a0 a1 a2 a3 : Option Value) (x : Int32) (ls : mL) (st : List Value) (σ : mS) : ev 82 23 (a0 :: a1 :: a2 :: a3 :: some (.int x) :: ls) st σ = ev 82 25 (a0 :: a1 :: a2 :: a3 :: some (.int x) :: ls) (.int x :: st) σ := e_iload0 k82_23 rfl
theorem k82_25 : cod 82 25 = some (.invokestatic 83, 3, 0, 0, 5, 1) := rfl
theorem e82_25 (x y : Int32) (ls : mL) (st : List Value) (σ : mS) (hz : mCat st ≤ 8) : ev 82 25 ls (.int y :: .int x :: st) σ = ev 82 28 ls (.int (if y < x then y else x) :: st) σ := e_min k82_25 hz
theorem k82_28 : cod 82 28 = some (.invokevirtual 88, 3, 73, 3, 0, 6) := rfl
theorem e82_28 (t : Nat) (x0 : Int32) (x1 : Int32) (x2 : Int32) (ls : mL) (st : List Value) (σ : mS) (hm : mCat st ≤ 8) : ev 82 28 ls (.int x2 :: .int x1 :: .int x0 :: .ref t :: st) σ = isC (σ.1 t) 6 ((evM 73 [.ref t, .int x0, .int x1, .int x2] σ).bind fun z => ev 82 31 ls (z.1.toList ++ st) z.2) := e_callVK k82_28 (by decide) rfl ⟨hm, Nat.le_of_ble_eq_true rfl⟩
theorem k82_31 : cod 82 31 = some (.ireturn, 1, 0, 0, 0, 0) := rfl
theorem e82_31 (x : Int32) (ls : mL) (σ : mS) : ev 82 31 ls [.int x] σ = some (some (.int x), σ) := e_iret k82_31 rfl
theorem m82 (t : Nat) (x0 : Int32) (x1 : Int32) (x2 : Int32) (σ : mS) : evM 82 [.ref t, .int x0, .int x1, .int x2] σ = ev 82 0 [some (.ref t), some (.int x0), some (.int x1), some (.int x2), none] [] σ := rfl
