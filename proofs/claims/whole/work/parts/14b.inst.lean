/-! THE EQUATIONS, an instruction each: printed by a program. -/

theorem k83_0 : cod 83 0 = some (.aload_n 0, 1, 0, 0, 0, 0) := rfl
theorem e83_0 (x : Nat) (ls : mL) (st : List Value) (σ : mS) : ev 83 0 (some (.ref x) :: ls) st σ = ev 83 1 (some (.ref x) :: ls) (.ref x :: st) σ := e_aload1 k83_0 rfl
theorem k83_1 : cod 83 1 = some (.invokespecial 1, 3, 7, 0, 9, 2) := rfl
theorem e83_1 (x : Nat) (ls : mL) (st : List Value) (σ : mS) (hz : mCat st ≤ 8) : ev 83 1 ls (.ref x :: st) σ = ev 83 4 ls st σ := e_objInit k83_1 hz
theorem k83_4 : cod 83 4 = some (.aload_n 0, 1, 0, 0, 0, 0) := rfl
theorem e83_4 (x : Nat) (ls : mL) (st : List Value) (σ : mS) : ev 83 4 (some (.ref x) :: ls) st σ = ev 83 5 (some (.ref x) :: ls) (.ref x :: st) σ := e_aload1 k83_4 rfl
theorem k83_5 : cod 83 5 = some (.new 7, 3, 4, 0, 0, 0) := rfl
theorem e83_5 (ls : mL) (st : List Value) (σ : mS) : ev 83 5 ls st σ = ev 83 8 ls (.ref σ.2.1 :: st) (mnew σ (.inr (4, (ctT 4).map dfv)) (ctT 4).length) := e_new k83_5
theorem k83_8 : cod 83 8 = some (.dup, 1, 0, 0, 0, 0) := rfl
theorem e83_8i (x : Int32) (ls : mL) (st : List Value) (σ : mS) : ev 83 8 ls (.int x :: st) σ = ev 83 9 ls (.int x :: .int x :: st) σ := e_dupI k83_8
theorem e83_8r (x : Nat) (ls : mL) (st : List Value) (σ : mS) : ev 83 8 ls (.ref x :: st) σ = ev 83 9 ls (.ref x :: .ref x :: st) σ := e_dupR k83_8
theorem k83_9 : cod 83 9 = some (.invokespecial 9, 3, 41, 0, 1, 0) := rfl
theorem e83_9 (t : Nat) (ls : mL) (st : List Value) (σ : mS) (hm : mCat st ≤ 8) : ev 83 9 ls (.ref t :: st) σ = (evM 41 [.ref t] σ).bind fun z => ev 83 12 ls (z.1.toList ++ st) z.2 := e_callI k83_9 (by decide) rfl ⟨hm, Nat.le_of_ble_eq_true rfl⟩
theorem k83_12 : cod 83 12 = some (.putfield 10, 3, 7, 0, 2, 3) := rfl
theorem e83_12 (x : Nat) (t : Nat) (ls : mL) (st : List Value) (σ : mS) : ev 83 12 ls (.ref x :: .ref t :: st) σ = pfK (σ.1 t) 7 0 (.ref x) (fun e => ev 83 15 ls st (mset σ t e)) := e_putR k83_12
theorem k83_15 : cod 83 15 = some (.aload_n 0, 1, 0, 0, 0, 0) := rfl
theorem e83_15 (x : Nat) (ls : mL) (st : List Value) (σ : mS) : ev 83 15 (some (.ref x) :: ls) st σ = ev 83 16 (some (.ref x) :: ls) (.ref x :: st) σ := e_aload1 k83_15 rfl
theorem k83_16 : cod 83 16 = some (.new 16, 3, 1, 0, 0, 0) := rfl
theorem e83_16 (ls : mL) (st : List Value) (σ : mS) : ev 83 16 ls st σ = ev 83 19 ls (.ref σ.2.1 :: st) (mnew σ (.inr (1, (ctT 1).map dfv)) (ctT 1).length) := e_new k83_16
theorem k83_19 : cod 83 19 = some (.dup, 1, 0, 0, 0, 0) := rfl
theorem e83_19i (x : Int32) (ls : mL) (st : List Value) (σ : mS) : ev 83 19 ls (.int x :: st) σ = ev 83 20 ls (.int x :: .int x :: st) σ := e_dupI k83_19
theorem e83_19r (x : Nat) (ls : mL) (st : List Value) (σ : mS) : ev 83 19 ls (.ref x :: st) σ = ev 83 20 ls (.ref x :: .ref x :: st) σ := e_dupR k83_19
theorem k83_20 : cod 83 20 = some (.invokespecial 18, 3, 21, 0, 1, 0) := rfl
theorem e83_20 (t : Nat) (ls : mL) (st : List Value) (σ : mS) (hm : mCat st ≤ 8) : ev 83 20 ls (.ref t :: st) σ = (evM 21 [.ref t] σ).bind fun z => ev 83 23 ls (z.1.toList ++ st) z.2 := e_callI k83_20 (by decide) rfl ⟨hm, Nat.le_of_ble_eq_true rfl⟩
theorem k83_23 : cod 83 23 = some (.putfield 19, 3, 7, 1, 2, 3) := rfl
theorem e83_23 (x : Nat) (t : Nat) (ls : mL) (st : List Value) (σ : mS) : ev 83 23 ls (.ref x :: .ref t :: st) σ = pfK (σ.1 t) 7 1 (.ref x) (fun e => ev 83 26 ls st (mset σ t e)) := e_putR k83_23
theorem k83_26 : cod 83 26 = some (.aload_n 0, 1, 0, 0, 0, 0) := rfl
theorem e83_26 (x : Nat) (ls : mL) (st : List Value) (σ : mS) : ev 83 26 (some (.ref x) :: ls) st σ = ev 83 27 (some (.ref x) :: ls) (.ref x :: st) σ := e_aload1 k83_26 rfl
theorem k83_27 : cod 83 27 = some (.new 23, 3, 6, 0, 0, 0) := rfl
theorem e83_27 (ls : mL) (st : List Value) (σ : mS) : ev 83 27 ls st σ = ev 83 30 ls (.ref σ.2.1 :: st) (mnew σ (.inr (6, (ctT 6).map dfv)) (ctT 6).length) := e_new k83_27
theorem k83_30 : cod 83 30 = some (.dup, 1, 0, 0, 0, 0) := rfl
theorem e83_30i (x : Int32) (ls : mL) (st : List Value) (σ : mS) : ev 83 30 ls (.int x :: st) σ = ev 83 31 ls (.int x :: .int x :: st) σ := e_dupI k83_30
theorem e83_30r (x : Nat) (ls : mL) (st : List Value) (σ : mS) : ev 83 30 ls (.ref x :: st) σ = ev 83 31 ls (.ref x :: .ref x :: st) σ := e_dupR k83_30
theorem k83_31 : cod 83 31 = some (.invokespecial 25, 3, 58, 0, 1, 0) := rfl
theorem e83_31 (t : Nat) (ls : mL) (st : List Value) (σ : mS) (hm : mCat st ≤ 8) : ev 83 31 ls (.ref t :: st) σ = (evM 58 [.ref t] σ).bind fun z => ev 83 34 ls (z.1.toList ++ st) z.2 := e_callI k83_31 (by decide) rfl ⟨hm, Nat.le_of_ble_eq_true rfl⟩
theorem k83_34 : cod 83 34 = some (.putfield 26, 3, 7, 2, 0, 3) := rfl
theorem e83_34 (x : Nat) (t : Nat) (ls : mL) (st : List Value) (σ : mS) : ev 83 34 ls (.ref x :: .ref t :: st) σ = pfK (σ.1 t) 7 2 (.ref x) (fun e => ev 83 37 ls st (mset σ t e)) := e_putR k83_34
theorem k83_37 : cod 83 37 = some (.aload_n 0, 1, 0, 0, 0, 0) := rfl
theorem e83_37 (x : Nat) (ls : mL) (st : List Value) (σ : mS) : ev 83 37 (some (.ref x) :: ls) st σ = ev 83 38 (some (.ref x) :: ls) (.ref x :: st) σ := e_aload1 k83_37 rfl
theorem k83_38 : cod 83 38 = some (.new 23, 3, 6, 0, 0, 0) := rfl
theorem e83_38 (ls : mL) (st : List Value) (σ : mS) : ev 83 38 ls st σ = ev 83 41 ls (.ref σ.2.1 :: st) (mnew σ (.inr (6, (ctT 6).map dfv)) (ctT 6).length) := e_new k83_38
theorem k83_41 : cod 83 41 = some (.dup, 1, 0, 0, 0, 0) := rfl
theorem e83_41i (x : Int32) (ls : mL) (st : List Value) (σ : mS) : ev 83 41 ls (.int x :: st) σ = ev 83 42 ls (.int x :: .int x :: st) σ := e_dupI k83_41
theorem e83_41r (x : Nat) (ls : mL) (st : List Value) (σ : mS) : ev 83 41 ls (.ref x :: st) σ = ev 83 42 ls (.ref x :: .ref x :: st) σ := e_dupR k83_41
theorem k83_42 : cod 83 42 = some (.invokespecial 25, 3, 58, 0, 1, 0) := rfl
theorem e83_42 (t : Nat) (ls : mL) (st : List Value) (σ : mS) (hm : mCat st ≤ 8) : ev 83 42 ls (.ref t :: st) σ = (evM 58 [.ref t] σ).bind fun z => ev 83 45 ls (z.1.toList ++ st) z.2 := e_callI k83_42 (by decide) rfl ⟨hm, Nat.le_of_ble_eq_true rfl⟩
theorem k83_45 : cod 83 45 = some (.putfield 30, 3, 7, 3, 0, 3) := rfl
theorem e83_45 (x : Nat) (t : Nat) (ls : mL) (st : List Value) (σ : mS) : ev 83 45 ls (.ref x :: .ref t :: st) σ = pfK (σ.1 t) 7 3 (.ref x) (fun e => ev 83 48 ls st (mset σ t e)) := e_putR k83_45
theorem k83_48 : cod 83 48 = some (.aload_n 0, 1, 0, 0, 0, 0) := rfl
theorem e83_48 (x : Nat) (ls : mL) (st : List Value) (σ : mS) : ev 83 48 (some (.ref x) :: ls) st σ = ev 83 49 (some (.ref x) :: ls) (.ref x :: st) σ := e_aload1 k83_48 rfl
theorem k83_49 : cod 83 49 = some (.new 33, 3, 0, 0, 0, 0) := rfl
theorem e83_49 (ls : mL) (st : List Value) (σ : mS) : ev 83 49 ls st σ = ev 83 52 ls (.ref σ.2.1 :: st) (mnew σ (.inr (0, (ctT 0).map dfv)) (ctT 0).length) := e_new k83_49
theorem k83_52 : cod 83 52 = some (.dup, 1, 0, 0, 0, 0) := rfl
theorem e83_52i (x : Int32) (ls : mL) (st : List Value) (σ : mS) : ev 83 52 ls (.int x :: st) σ = ev 83 53 ls (.int x :: .int x :: st) σ := e_dupI k83_52
theorem e83_52r (x : Nat) (ls : mL) (st : List Value) (σ : mS) : ev 83 52 ls (.ref x :: st) σ = ev 83 53 ls (.ref x :: .ref x :: st) σ := e_dupR k83_52
theorem k83_53 : cod 83 53 = some (.invokespecial 35, 3, 0, 0, 1, 0) := rfl
theorem e83_53 (t : Nat) (ls : mL) (st : List Value) (σ : mS) (hm : mCat st ≤ 8) : ev 83 53 ls (.ref t :: st) σ = (evM 0 [.ref t] σ).bind fun z => ev 83 56 ls (z.1.toList ++ st) z.2 := e_callI k83_53 (by decide) rfl ⟨hm, Nat.le_of_ble_eq_true rfl⟩
theorem k83_56 : cod 83 56 = some (.putfield 36, 3, 7, 4, 2, 3) := rfl
theorem e83_56 (x : Nat) (t : Nat) (ls : mL) (st : List Value) (σ : mS) : ev 83 56 ls (.ref x :: .ref t :: st) σ = pfK (σ.1 t) 7 4 (.ref x) (fun e => ev 83 59 ls st (mset σ t e)) := e_putR k83_56
theorem k83_59 : cod 83 59 = some (.aload_n 0, 1, 0, 0, 0, 0) := rfl
theorem e83_59 (x : Nat) (ls : mL) (st : List Value) (σ : mS) : ev 83 59 (some (.ref x) :: ls) st σ = ev 83 60 (some (.ref x) :: ls) (.ref x :: st) σ := e_aload1 k83_59 rfl
theorem k83_60 : cod 83 60 = some (.new 33, 3, 0, 0, 0, 0) := rfl
theorem e83_60 (ls : mL) (st : List Value) (σ : mS) : ev 83 60 ls st σ = ev 83 63 ls (.ref σ.2.1 :: st) (mnew σ (.inr (0, (ctT 0).map dfv)) (ctT 0).length) := e_new k83_60
theorem k83_63 : cod 83 63 = some (.dup, 1, 0, 0, 0, 0) := rfl
theorem e83_63i (x : Int32) (ls : mL) (st : List Value) (σ : mS) : ev 83 63 ls (.int x :: st) σ = ev 83 64 ls (.int x :: .int x :: st) σ := e_dupI k83_63
theorem e83_63r (x : Nat) (ls : mL) (st : List Value) (σ : mS) : ev 83 63 ls (.ref x :: st) σ = ev 83 64 ls (.ref x :: .ref x :: st) σ := e_dupR k83_63
theorem k83_64 : cod 83 64 = some (.invokespecial 35, 3, 0, 0, 1, 0) := rfl
theorem e83_64 (t : Nat) (ls : mL) (st : List Value) (σ : mS) (hm : mCat st ≤ 8) : ev 83 64 ls (.ref t :: st) σ = (evM 0 [.ref t] σ).bind fun z => ev 83 67 ls (z.1.toList ++ st) z.2 := e_callI k83_64 (by decide) rfl ⟨hm, Nat.le_of_ble_eq_true rfl⟩
theorem k83_67 : cod 83 67 = some (.putfield 40, 3, 7, 5, 2, 3) := rfl
theorem e83_67 (x : Nat) (t : Nat) (ls : mL) (st : List Value) (σ : mS) : ev 83 67 ls (.ref x :: .ref t :: st) σ = pfK (σ.1 t) 7 5 (.ref x) (fun e => ev 83 70 ls st (mset σ t e)) := e_putR k83_67
theorem k83_70 : cod 83 70 = some (.aload_n 0, 1, 0, 0, 0, 0) := rfl
theorem e83_70 (x : Nat) (ls : mL) (st : List Value) (σ : mS) : ev 83 70 (some (.ref x) :: ls) st σ = ev 83 71 (some (.ref x) :: ls) (.ref x :: st) σ := e_aload1 k83_70 rfl
theorem k83_71 : cod 83 71 = some (.new 33, 3, 0, 0, 0, 0) := rfl
theorem e83_71 (ls : mL) (st : List Value) (σ : mS) : ev 83 71 ls st σ = ev 83 74 ls (.ref σ.2.1 :: st) (mnew σ (.inr (0, (ctT 0).map dfv)) (ctT 0).length) := e_new k83_71
theorem k83_74 : cod 83 74 = some (.dup, 1, 0, 0, 0, 0) := rfl
theorem e83_74i (x : Int32) (ls : mL) (st : List Value) (σ : mS) : ev 83 74 ls (.int x :: st) σ = ev 83 75 ls (.int x :: .int x :: st) σ := e_dupI k83_74
theorem e83_74r (x : Nat) (ls : mL) (st : List Value) (σ : mS) : ev 83 74 ls (.ref x :: st) σ = ev 83 75 ls (.ref x :: .ref x :: st) σ := e_dupR k83_74
theorem k83_75 : cod 83 75 = some (.invokespecial 35, 3, 0, 0, 1, 0) := rfl
theorem e83_75 (t : Nat) (ls : mL) (st : List Value) (σ : mS) (hm : mCat st ≤ 8) : ev 83 75 ls (.ref t :: st) σ = (evM 0 [.ref t] σ).bind fun z => ev 83 78 ls (z.1.toList ++ st) z.2 := e_callI k83_75 (by decide) rfl ⟨hm, Nat.le_of_ble_eq_true rfl⟩
theorem k83_78 : cod 83 78 = some (.putfield 43, 3, 7, 6, 2, 3) := rfl
theorem e83_78 (x : Nat) (t : Nat) (ls : mL) (st : List Value) (σ : mS) : ev 83 78 ls (.ref x :: .ref t :: st) σ = pfK (σ.1 t) 7 6 (.ref x) (fun e => ev 83 81 ls st (mset σ t e)) := e_putR k83_78
theorem k83_81 : cod 83 81 = some (.aload_n 0, 1, 0, 0, 0, 0) := rfl
theorem e83_81 (x : Nat) (ls : mL) (st : List Value) (σ : mS) : ev 83 81 (some (.ref x) :: ls) st σ = ev 83 82 (some (.ref x) :: ls) (.ref x :: st) σ := e_aload1 k83_81 rfl
theorem k83_82 : cod 83 82 = some (.bipush (8), 2, 0, 0, 0, 0) := rfl
theorem e83_82 (ls : mL) (st : List Value) (σ : mS) : ev 83 82 ls st σ = ev 83 84 ls (.int 8 :: st) σ := e_bipush 8 k83_82 (by decide)
theorem k83_84 : cod 83 84 = some (.newarray .int, 2, 0, 0, 0, 0) := rfl
theorem e83_84 (x : Int32) (ls : mL) (st : List Value) (σ : mS) (hx : ¬ (x < 0 ∨ 100000 < x.toNatClampNeg)) : ev 83 84 ls (.int x :: st) σ = ev 83 86 ls (.ref σ.2.1 :: st) (mnew σ (.inl (0, x.toNatClampNeg, fun _ => 0)) x.toNatClampNeg) := e_newa k83_84 hx
theorem k83_86 : cod 83 86 = some (.putfield 46, 3, 7, 7, 2, 3) := rfl
theorem e83_86 (x : Nat) (t : Nat) (ls : mL) (st : List Value) (σ : mS) : ev 83 86 ls (.ref x :: .ref t :: st) σ = pfK (σ.1 t) 7 7 (.ref x) (fun e => ev 83 89 ls st (mset σ t e)) := e_putR k83_86
theorem k83_89 : cod 83 89 = some (.aload_n 0, 1, 0, 0, 0, 0) := rfl
theorem e83_89 (x : Nat) (ls : mL) (st : List Value) (σ : mS) : ev 83 89 (some (.ref x) :: ls) st σ = ev 83 90 (some (.ref x) :: ls) (.ref x :: st) σ := e_aload1 k83_89 rfl
theorem k83_90 : cod 83 90 = some (.bipush (8), 2, 0, 0, 0, 0) := rfl
theorem e83_90 (ls : mL) (st : List Value) (σ : mS) : ev 83 90 ls st σ = ev 83 92 ls (.int 8 :: st) σ := e_bipush 8 k83_90 (by decide)
theorem k83_92 : cod 83 92 = some (.newarray .int, 2, 0, 0, 0, 0) := rfl
theorem e83_92 (x : Int32) (ls : mL) (st : List Value) (σ : mS) (hx : ¬ (x < 0 ∨ 100000 < x.toNatClampNeg)) : ev 83 92 ls (.int x :: st) σ = ev 83 94 ls (.ref σ.2.1 :: st) (mnew σ (.inl (0, x.toNatClampNeg, fun _ => 0)) x.toNatClampNeg) := e_newa k83_92 hx
theorem k83_94 : cod 83 94 = some (.putfield 50, 3, 7, 8, 2, 3) := rfl
theorem e83_94 (x : Nat) (t : Nat) (ls : mL) (st : List Value) (σ : mS) : ev 83 94 ls (.ref x :: .ref t :: st) σ = pfK (σ.1 t) 7 8 (.ref x) (fun e => ev 83 97 ls st (mset σ t e)) := e_putR k83_94
theorem k83_97 : cod 83 97 = some (.aload_n 0, 1, 0, 0, 0, 0) := rfl
theorem e83_97 (x : Nat) (ls : mL) (st : List Value) (σ : mS) : ev 83 97 (some (.ref x) :: ls) st σ = ev 83 98 (some (.ref x) :: ls) (.ref x :: st) σ := e_aload1 k83_97 rfl
theorem k83_98 : cod 83 98 = some (.bipush (8), 2, 0, 0, 0, 0) := rfl
theorem e83_98 (ls : mL) (st : List Value) (σ : mS) : ev 83 98 ls st σ = ev 83 100 ls (.int 8 :: st) σ := e_bipush 8 k83_98 (by decide)
theorem k83_100 : cod 83 100 = some (.newarray .int, 2, 0, 0, 0, 0) := rfl
theorem e83_100 (x : Int32) (ls : mL) (st : List Value) (σ : mS) (hx : ¬ (x < 0 ∨ 100000 < x.toNatClampNeg)) : ev 83 100 ls (.int x :: st) σ = ev 83 102 ls (.ref σ.2.1 :: st) (mnew σ (.inl (0, x.toNatClampNeg, fun _ => 0)) x.toNatClampNeg) := e_newa k83_100 hx
theorem k83_102 : cod 83 102 = some (.putfield 53, 3, 7, 9, 2, 3) := rfl
theorem e83_102 (x : Nat) (t : Nat) (ls : mL) (st : List Value) (σ : mS) : ev 83 102 ls (.ref x :: .ref t :: st) σ = pfK (σ.1 t) 7 9 (.ref x) (fun e => ev 83 105 ls st (mset σ t e)) := e_putR k83_102
theorem k83_105 : cod 83 105 = some (.iconst 0, 1, 0, 0, 0, 0) := rfl
theorem e83_105 (ls : mL) (st : List Value) (σ : mS) : ev 83 105 ls st σ = ev 83 106 ls (.int 0 :: st) σ := e_iconst 0 k83_105 (by decide)
theorem k83_106 : cod 83 106 = some (.istore_n 1, 1, 0, 0, 0, 0) := rfl
theorem e83_106i (y : Int32) (o : Option Value) (x : Int32) (ls : mL) (st : List Value) (σ : mS) : ev 83 106 (some (.int y) :: o :: ls) (.int x :: st) σ = ev 83 107 (some (.int y) :: some (.int x) :: ls) st σ := e_istore1 k83_106 (Nat.le_add_left 2 ls.length)
theorem e83_106n (o : Option Value) (x : Int32) (ls : mL) (st : List Value) (σ : mS) : ev 83 106 (none :: o :: ls) (.int x :: st) σ = ev 83 107 (none :: some (.int x) :: ls) st σ := e_istore1 k83_106 (Nat.le_add_left 2 ls.length)
theorem e83_106r (y : Nat) (o : Option Value) (x : Int32) (ls : mL) (st : List Value) (σ : mS) : ev 83 106 (some (.ref y) :: o :: ls) (.int x :: st) σ = ev 83 107 (some (.ref y) :: some (.int x) :: ls) st σ := e_istore1 k83_106 (Nat.le_add_left 2 ls.length)
theorem k83_107 : cod 83 107 = some (.iload_n 1, 1, 0, 0, 0, 0) := rfl
theorem e83_107 (a0 : Option Value) (x : Int32) (ls : mL) (st : List Value) (σ : mS) : ev 83 107 (a0 :: some (.int x) :: ls) st σ = ev 83 108 (a0 :: some (.int x) :: ls) (.int x :: st) σ := e_iload1 k83_107 rfl
theorem k83_108 : cod 83 108 = some (.bipush (8), 2, 0, 0, 0, 0) := rfl
theorem e83_108 (ls : mL) (st : List Value) (σ : mS) : ev 83 108 ls st σ = ev 83 110 ls (.int 8 :: st) σ := e_bipush 8 k83_108 (by decide)
theorem k83_110 : cod 83 110 = some (.if_icmp .ge (16), 3, 126, 0, 0, 0) := rfl
theorem e83_110 (x y : Int32) (ls : mL) (st : List Value) (σ : mS) : ev 83 110 ls (.int y :: .int x :: st) σ = if y ≤ x then ev 83 126 ls st σ else ev 83 113 ls st σ := e_ic_ge k83_110
theorem k83_113 : cod 83 113 = some (.aload_n 0, 1, 0, 0, 0, 0) := rfl
theorem e83_113 (x : Nat) (ls : mL) (st : List Value) (σ : mS) : ev 83 113 (some (.ref x) :: ls) st σ = ev 83 114 (some (.ref x) :: ls) (.ref x :: st) σ := e_aload1 k83_113 rfl
theorem k83_114 : cod 83 114 = some (.getfield 46, 3, 7, 7, 0, 3) := rfl
theorem e83_114 (t : Nat) (ls : mL) (st : List Value) (σ : mS) : ev 83 114 ls (.ref t :: st) σ = gfK (σ.1 t) 7 7 (fun v => ev 83 117 ls (v :: st) σ) := e_getf k83_114
theorem k83_117 : cod 83 117 = some (.iload_n 1, 1, 0, 0, 0, 0) := rfl
theorem e83_117 (a0 : Option Value) (x : Int32) (ls : mL) (st : List Value) (σ : mS) : ev 83 117 (a0 :: some (.int x) :: ls) st σ = ev 83 118 (a0 :: some (.int x) :: ls) (.int x :: st) σ := e_iload1 k83_117 rfl
theorem k83_118 : cod 83 118 = some (.iconst 1, 1, 0, 0, 0, 0) := rfl
theorem e83_118 (ls : mL) (st : List Value) (σ : mS) : ev 83 118 ls st σ = ev 83 119 ls (.int 1 :: st) σ := e_iconst 1 k83_118 (by decide)
theorem k83_119 : cod 83 119 = some (.iastore, 1, 0, 0, 0, 0) := rfl
theorem e83_119 (j x : Int32) (t : Nat) (ls : mL) (st : List Value) (σ : mS) : ev 83 119 ls (.int x :: .int j :: .ref t :: st) σ = asK (σ.1 t) 0 j x (fun e => ev 83 120 ls st (mset σ t e)) := e_iast k83_119
theorem k83_120 : cod 83 120 = some (.iinc 1 (1), 3, 0, 0, 0, 0) := rfl
theorem e83_120i (y : Int32) (x : Int32) (ls : mL) (st : List Value) (σ : mS) : ev 83 120 (some (.int y) :: some (.int x) :: ls) st σ = ev 83 123 (some (.int y) :: some (.int (x + 1)) :: ls) st σ := e_iinc 1 k83_120 (by decide) rfl
theorem e83_120n (x : Int32) (ls : mL) (st : List Value) (σ : mS) : ev 83 120 (none :: some (.int x) :: ls) st σ = ev 83 123 (none :: some (.int (x + 1)) :: ls) st σ := e_iinc 1 k83_120 (by decide) rfl
theorem e83_120r (y : Nat) (x : Int32) (ls : mL) (st : List Value) (σ : mS) : ev 83 120 (some (.ref y) :: some (.int x) :: ls) st σ = ev 83 123 (some (.ref y) :: some (.int (x + 1)) :: ls) st σ := e_iinc 1 k83_120 (by decide) rfl
theorem k83_123 : cod 83 123 = some (.goto (-16), 3, 107, 0, 0, 0) := rfl
theorem e83_123 (ls : mL) (st : List Value) (σ : mS) : ev 83 123 ls st σ = ev 83 107 ls st σ := e_goto k83_123
theorem k83_126 : cod 83 126 = some (.aload_n 0, 1, 0, 0, 0, 0) := rfl
theorem e83_126 (x : Nat) (ls : mL) (st : List Value) (σ : mS) : ev 83 126 (some (.ref x) :: ls) st σ = ev 83 127 (some (.ref x) :: ls) (.ref x :: st) σ := e_aload1 k83_126 rfl
theorem k83_127 : cod 83 127 = some (.getfield 26, 3, 7, 2, 0, 3) := rfl
theorem e83_127 (t : Nat) (ls : mL) (st : List Value) (σ : mS) : ev 83 127 ls (.ref t :: st) σ = gfK (σ.1 t) 7 2 (fun v => ev 83 130 ls (v :: st) σ) := e_getf k83_127
theorem k83_130 : cod 83 130 = some (.ldc 56, 2, 65535, 0, 0, 0) := rfl
theorem e83_130 (ls : mL) (st : List Value) (σ : mS) : ev 83 130 ls st σ = ev 83 132 ls (.int 65535 :: st) σ := e_ldcI 65535 k83_130 (by decide)
theorem k83_132 : cod 83 132 = some (.putfield 57, 3, 6, 9, 1, 0) := rfl
theorem e83_132 (x : Int32) (t : Nat) (ls : mL) (st : List Value) (σ : mS) : ev 83 132 ls (.int x :: .ref t :: st) σ = pfK (σ.1 t) 6 9 (.int x) (fun e => ev 83 135 ls st (mset σ t e)) := e_putI k83_132
theorem k83_135 : cod 83 135 = some (.aload_n 0, 1, 0, 0, 0, 0) := rfl
theorem e83_135 (x : Nat) (ls : mL) (st : List Value) (σ : mS) : ev 83 135 (some (.ref x) :: ls) st σ = ev 83 136 (some (.ref x) :: ls) (.ref x :: st) σ := e_aload1 k83_135 rfl
theorem k83_136 : cod 83 136 = some (.getfield 26, 3, 7, 2, 0, 3) := rfl
theorem e83_136 (t : Nat) (ls : mL) (st : List Value) (σ : mS) : ev 83 136 ls (.ref t :: st) σ = gfK (σ.1 t) 7 2 (fun v => ev 83 139 ls (v :: st) σ) := e_getf k83_136
theorem k83_139 : cod 83 139 = some (.invokevirtual 61, 3, 59, 0, 0, 6) := rfl
theorem e83_139 (t : Nat) (ls : mL) (st : List Value) (σ : mS) (hm : mCat st ≤ 8) : ev 83 139 ls (.ref t :: st) σ = isC (σ.1 t) 6 ((evM 59 [.ref t] σ).bind fun z => ev 83 142 ls (z.1.toList ++ st) z.2) := e_callVK k83_139 (by decide) rfl ⟨hm, Nat.le_of_ble_eq_true rfl⟩
theorem k83_142 : cod 83 142 = some (.aload_n 0, 1, 0, 0, 0, 0) := rfl
theorem e83_142 (x : Nat) (ls : mL) (st : List Value) (σ : mS) : ev 83 142 (some (.ref x) :: ls) st σ = ev 83 143 (some (.ref x) :: ls) (.ref x :: st) σ := e_aload1 k83_142 rfl
theorem k83_143 : cod 83 143 = some (.getfield 26, 3, 7, 2, 0, 3) := rfl
theorem e83_143 (t : Nat) (ls : mL) (st : List Value) (σ : mS) : ev 83 143 ls (.ref t :: st) σ = gfK (σ.1 t) 7 2 (fun v => ev 83 146 ls (v :: st) σ) := e_getf k83_143
theorem k83_146 : cod 83 146 = some (.getfield 64, 3, 6, 16, 1, 3) := rfl
theorem e83_146 (t : Nat) (ls : mL) (st : List Value) (σ : mS) : ev 83 146 ls (.ref t :: st) σ = gfK (σ.1 t) 6 16 (fun v => ev 83 149 ls (v :: st) σ) := e_getf k83_146
theorem k83_149 : cod 83 149 = some (.aload_n 0, 1, 0, 0, 0, 0) := rfl
theorem e83_149 (x : Nat) (ls : mL) (st : List Value) (σ : mS) : ev 83 149 (some (.ref x) :: ls) st σ = ev 83 150 (some (.ref x) :: ls) (.ref x :: st) σ := e_aload1 k83_149 rfl
theorem k83_150 : cod 83 150 = some (.getfield 26, 3, 7, 2, 0, 3) := rfl
theorem e83_150 (t : Nat) (ls : mL) (st : List Value) (σ : mS) : ev 83 150 ls (.ref t :: st) σ = gfK (σ.1 t) 7 2 (fun v => ev 83 153 ls (v :: st) σ) := e_getf k83_150
theorem k83_153 : cod 83 153 = some (.invokevirtual 68, 3, 28, 1, 0, 2) := rfl
theorem e83_153 (t : Nat) (x0 : Nat) (ls : mL) (st : List Value) (σ : mS) (hm : mCat st ≤ 8) : ev 83 153 ls (.ref x0 :: .ref t :: st) σ = isC (σ.1 t) 2 ((evM 28 [.ref t, .ref x0] σ).bind fun z => ev 83 156 ls (z.1.toList ++ st) z.2) := e_callVK k83_153 (by decide) rfl ⟨hm, Nat.le_of_ble_eq_true rfl⟩
theorem k83_156 : cod 83 156 = some (.aload_n 0, 1, 0, 0, 0, 0) := rfl
theorem e83_156 (x : Nat) (ls : mL) (st : List Value) (σ : mS) : ev 83 156 (some (.ref x) :: ls) st σ = ev 83 157 (some (.ref x) :: ls) (.ref x :: st) σ := e_aload1 k83_156 rfl
theorem k83_157 : cod 83 157 = some (.getfield 36, 3, 7, 4, 0, 3) := rfl
theorem e83_157 (t : Nat) (ls : mL) (st : List Value) (σ : mS) : ev 83 157 ls (.ref t :: st) σ = gfK (σ.1 t) 7 4 (fun v => ev 83 160 ls (v :: st) σ) := e_getf k83_157
theorem k83_160 : cod 83 160 = some (.bipush (-9), 2, 0, 0, 0, 0) := rfl
theorem e83_160 (ls : mL) (st : List Value) (σ : mS) : ev 83 160 ls st σ = ev 83 162 ls (.int (-9) :: st) σ := e_bipush (-9) k83_160 (by decide)
theorem k83_162 : cod 83 162 = some (.sipush (1000), 3, 0, 0, 0, 0) := rfl
theorem e83_162 (ls : mL) (st : List Value) (σ : mS) : ev 83 162 ls st σ = ev 83 165 ls (.int 1000 :: st) σ := e_sipush 1000 k83_162 (by decide)
theorem k83_165 : cod 83 165 = some (.invokevirtual 74, 3, 1, 2, 0, 0) := rfl
theorem e83_165 (t : Nat) (x0 : Int32) (x1 : Int32) (ls : mL) (st : List Value) (σ : mS) (hm : mCat st ≤ 8) : ev 83 165 ls (.int x1 :: .int x0 :: .ref t :: st) σ = isC (σ.1 t) 0 ((evM 1 [.ref t, .int x0, .int x1] σ).bind fun z => ev 83 168 ls (z.1.toList ++ st) z.2) := e_callVK k83_165 (by decide) rfl ⟨hm, Nat.le_of_ble_eq_true rfl⟩
theorem k83_168 : cod 83 168 = some (.pop, 1, 0, 0, 0, 0) := rfl
theorem e83_168 (x : Int32) (ls : mL) (st : List Value) (σ : mS) : ev 83 168 ls (.int x :: st) σ = ev 83 169 ls st σ := e_pop k83_168
theorem k83_169 : cod 83 169 = some (.return_, 1, 0, 0, 0, 0) := rfl
theorem e83_169 (ls : mL) (σ : mS) : ev 83 169 ls [] σ = some (none, σ) := e_vret k83_169 rfl
theorem m83 (t : Nat) (σ : mS) : evM 83 [.ref t] σ = ev 83 0 [some (.ref t), none] [] σ := rfl
theorem k84_0 : cod 84 0 = some (.iload_n 1, 1, 0, 0, 0, 0) := rfl
theorem e84_0 (a0 : Option Value) (x : Int32) (ls : mL) (st : List Value) (σ : mS) : ev 84 0 (a0 :: some (.int x) :: ls) st σ = ev 84 1 (a0 :: some (.int x) :: ls) (.int x :: st) σ := e_iload1 k84_0 rfl
theorem k84_1 : cod 84 1 = some (.ifCond .lt (21), 3, 22, 0, 0, 0) := rfl
theorem e84_1 (x : Int32) (ls : mL) (st : List Value) (σ : mS) : ev 84 1 ls (.int x :: st) σ = if x < 0 then ev 84 22 ls st σ else ev 84 4 ls st σ := e_if_lt k84_1
theorem k84_4 : cod 84 4 = some (.iload_n 1, 1, 0, 0, 0, 0) := rfl
theorem e84_4 (a0 : Option Value) (x : Int32) (ls : mL) (st : List Value) (σ : mS) : ev 84 4 (a0 :: some (.int x) :: ls) st σ = ev 84 5 (a0 :: some (.int x) :: ls) (.int x :: st) σ := e_iload1 k84_4 rfl
theorem k84_5 : cod 84 5 = some (.bipush (31), 2, 0, 0, 0, 0) := rfl
theorem e84_5 (ls : mL) (st : List Value) (σ : mS) : ev 84 5 ls st σ = ev 84 7 ls (.int 31 :: st) σ := e_bipush 31 k84_5 (by decide)
theorem k84_7 : cod 84 7 = some (.if_icmp .ge (15), 3, 22, 0, 0, 0) := rfl
theorem e84_7 (x y : Int32) (ls : mL) (st : List Value) (σ : mS) : ev 84 7 ls (.int y :: .int x :: st) σ = if y ≤ x then ev 84 22 ls st σ else ev 84 10 ls st σ := e_ic_ge k84_7
theorem k84_10 : cod 84 10 = some (.iload_n 0, 1, 0, 0, 0, 0) := rfl
theorem e84_10 (x : Int32) (ls : mL) (st : List Value) (σ : mS) : ev 84 10 (some (.int x) :: ls) st σ = ev 84 11 (some (.int x) :: ls) (.int x :: st) σ := e_iload1 k84_10 rfl
theorem k84_11 : cod 84 11 = some (.iload_n 1, 1, 0, 0, 0, 0) := rfl
theorem e84_11 (a0 : Option Value) (x : Int32) (ls : mL) (st : List Value) (σ : mS) : ev 84 11 (a0 :: some (.int x) :: ls) st σ = ev 84 12 (a0 :: some (.int x) :: ls) (.int x :: st) σ := e_iload1 k84_11 rfl
theorem k84_12 : cod 84 12 = some (.ishr, 1, 0, 0, 0, 0) := rfl
theorem e84_12 (x y : Int32) (ls : mL) (st : List Value) (σ : mS) : ev 84 12 ls (.int y :: .int x :: st) σ = ev 84 13 ls (.int (x >>> (y &&& 31)) :: st) σ := e_ishr k84_12
theorem k84_13 : cod 84 13 = some (.iconst 1, 1, 0, 0, 0, 0) := rfl
theorem e84_13 (ls : mL) (st : List Value) (σ : mS) : ev 84 13 ls st σ = ev 84 14 ls (.int 1 :: st) σ := e_iconst 1 k84_13 (by decide)
theorem k84_14 : cod 84 14 = some (.iand, 1, 0, 0, 0, 0) := rfl
theorem e84_14 (x y : Int32) (ls : mL) (st : List Value) (σ : mS) : ev 84 14 ls (.int y :: .int x :: st) σ = ev 84 15 ls (.int (x &&& y) :: st) σ := e_iand k84_14
theorem k84_15 : cod 84 15 = some (.ifCond .eq (7), 3, 22, 0, 0, 0) := rfl
theorem e84_15 (x : Int32) (ls : mL) (st : List Value) (σ : mS) : ev 84 15 ls (.int x :: st) σ = if x = 0 then ev 84 22 ls st σ else ev 84 18 ls st σ := e_if_eq k84_15
theorem k84_18 : cod 84 18 = some (.iconst 1, 1, 0, 0, 0, 0) := rfl
theorem e84_18 (ls : mL) (st : List Value) (σ : mS) : ev 84 18 ls st σ = ev 84 19 ls (.int 1 :: st) σ := e_iconst 1 k84_18 (by decide)
theorem k84_19 : cod 84 19 = some (.goto (4), 3, 23, 0, 0, 0) := rfl
theorem e84_19 (ls : mL) (st : List Value) (σ : mS) : ev 84 19 ls st σ = ev 84 23 ls st σ := e_goto k84_19
theorem k84_22 : cod 84 22 = some (.iconst 0, 1, 0, 0, 0, 0) := rfl
theorem e84_22 (ls : mL) (st : List Value) (σ : mS) : ev 84 22 ls st σ = ev 84 23 ls (.int 0 :: st) σ := e_iconst 0 k84_22 (by decide)
theorem k84_23 : cod 84 23 = some (.ireturn, 1, 0, 0, 0, 0) := rfl
theorem e84_23 (x : Int32) (ls : mL) (σ : mS) : ev 84 23 ls [.int x] σ = if x = 0 ∨ x = 1 then some (some (.int x), σ) else none := e_zret k84_23 rfl
theorem e84_23b0 (ls : mL) (σ : mS) : ev 84 23 ls [.int 0] σ = some (some (.int 0), σ) := (e_zret k84_23 rfl).trans (if_pos (Or.inl rfl))
theorem e84_23b1 (ls : mL) (σ : mS) : ev 84 23 ls [.int 1] σ = some (some (.int 1), σ) := (e_zret k84_23 rfl).trans (if_pos (Or.inr rfl))
theorem m84 (x0 : Int32) (x1 : Int32) (σ : mS) : evM 84 [.int x0, .int x1] σ = ev 84 0 [some (.int x0), some (.int x1)] [] σ := rfl
theorem k85_0 : cod 85 0 = some (.iload_n 0, 1, 0, 0, 0, 0) := rfl
theorem e85_0 (x : Int32) (ls : mL) (st : List Value) (σ : mS) : ev 85 0 (some (.int x) :: ls) st σ = ev 85 1 (some (.int x) :: ls) (.int x :: st) σ := e_iload1 k85_0 rfl
theorem k85_1 : cod 85 1 = some (.ifCond .lt (13), 3, 14, 0, 0, 0) := rfl
theorem e85_1 (x : Int32) (ls : mL) (st : List Value) (σ : mS) : ev 85 1 ls (.int x :: st) σ = if x < 0 then ev 85 14 ls st σ else ev 85 4 ls st σ := e_if_lt k85_1
theorem k85_4 : cod 85 4 = some (.iload_n 0, 1, 0, 0, 0, 0) := rfl
theorem e85_4 (x : Int32) (ls : mL) (st : List Value) (σ : mS) : ev 85 4 (some (.int x) :: ls) st σ = ev 85 5 (some (.int x) :: ls) (.int x :: st) σ := e_iload1 k85_4 rfl
theorem k85_5 : cod 85 5 = some (.bipush (16), 2, 0, 0, 0, 0) := rfl
theorem e85_5 (ls : mL) (st : List Value) (σ : mS) : ev 85 5 ls st σ = ev 85 7 ls (.int 16 :: st) σ := e_bipush 16 k85_5 (by decide)
theorem k85_7 : cod 85 7 = some (.if_icmp .ge (7), 3, 14, 0, 0, 0) := rfl
theorem e85_7 (x y : Int32) (ls : mL) (st : List Value) (σ : mS) : ev 85 7 ls (.int y :: .int x :: st) σ = if y ≤ x then ev 85 14 ls st σ else ev 85 10 ls st σ := e_ic_ge k85_7
theorem k85_10 : cod 85 10 = some (.iconst 1, 1, 0, 0, 0, 0) := rfl
theorem e85_10 (ls : mL) (st : List Value) (σ : mS) : ev 85 10 ls st σ = ev 85 11 ls (.int 1 :: st) σ := e_iconst 1 k85_10 (by decide)
theorem k85_11 : cod 85 11 = some (.goto (4), 3, 15, 0, 0, 0) := rfl
theorem e85_11 (ls : mL) (st : List Value) (σ : mS) : ev 85 11 ls st σ = ev 85 15 ls st σ := e_goto k85_11
theorem k85_14 : cod 85 14 = some (.iconst 0, 1, 0, 0, 0, 0) := rfl
theorem e85_14 (ls : mL) (st : List Value) (σ : mS) : ev 85 14 ls st σ = ev 85 15 ls (.int 0 :: st) σ := e_iconst 0 k85_14 (by decide)
theorem k85_15 : cod 85 15 = some (.ireturn, 1, 0, 0, 0, 0) := rfl
theorem e85_15 (x : Int32) (ls : mL) (σ : mS) : ev 85 15 ls [.int x] σ = if x = 0 ∨ x = 1 then some (some (.int x), σ) else none := e_zret k85_15 rfl
theorem e85_15b0 (ls : mL) (σ : mS) : ev 85 15 ls [.int 0] σ = some (some (.int 0), σ) := (e_zret k85_15 rfl).trans (if_pos (Or.inl rfl))
theorem e85_15b1 (ls : mL) (σ : mS) : ev 85 15 ls [.int 1] σ = some (some (.int 1), σ) := (e_zret k85_15 rfl).trans (if_pos (Or.inr rfl))
theorem m85 (x0 : Int32) (σ : mS) : evM 85 [.int x0] σ = ev 85 0 [some (.int x0)] [] σ := rfl
theorem k86_0 : cod 86 0 = some (.iload_n 3, 1, 0, 0, 0, 0) := rfl
theorem e86_0 (a0 a1 a2 : Option Value) (x : Int32) (ls : mL) (st : List Value) (σ : mS) : ev 86 0 (a0 :: a1 :: a2 :: some (.int x) :: ls) st σ = ev 86 1 (a0 :: a1 :: a2 :: some (.int x) :: ls) (.int x :: st) σ := e_iload1 k86_0 rfl
theorem k86_1 : cod 86 1 = some (.iconst 1, 1, 0, 0, 0, 0) := rfl
theorem e86_1 (ls : mL) (st : List Value) (σ : mS) : ev 86 1 ls st σ = ev 86 2 ls (.int 1 :: st) σ := e_iconst 1 k86_1 (by decide)
theorem k86_2 : cod 86 2 = some (.bipush (8), 2, 0, 0, 0, 0) := rfl
theorem e86_2 (ls : mL) (st : List Value) (σ : mS) : ev 86 2 ls st σ = ev 86 4 ls (.int 8 :: st) σ := e_bipush 8 k86_2 (by decide)
theorem k86_4 : cod 86 4 = some (.invokestatic 78, 3, 87, 3, 0, 0) := rfl
theorem e86_4 (x0 : Int32) (x1 : Int32) (x2 : Int32) (ls : mL) (st : List Value) (σ : mS) (hm : mCat st ≤ 8) : ev 86 4 ls (.int x2 :: .int x1 :: .int x0 :: st) σ = (evM 87 [.int x0, .int x1, .int x2] σ).bind fun z => ev 86 7 ls (z.1.toList ++ st) z.2 := e_callS k86_4 (by decide) rfl ⟨hm, Nat.le_of_ble_eq_true rfl⟩
theorem k86_7 : cod 86 7 = some (.ifCond .ne (5), 3, 12, 0, 0, 0) := rfl
theorem e86_7 (x : Int32) (ls : mL) (st : List Value) (σ : mS) : ev 86 7 ls (.int x :: st) σ = if x = 0 then ev 86 10 ls st σ else ev 86 12 ls st σ := e_if_ne k86_7
theorem k86_10 : cod 86 10 = some (.iconst (-1), 1, 0, 0, 0, 0) := rfl
theorem e86_10 (ls : mL) (st : List Value) (σ : mS) : ev 86 10 ls st σ = ev 86 11 ls (.int (-1) :: st) σ := e_iconst (-1) k86_10 (by decide)
theorem k86_11 : cod 86 11 = some (.ireturn, 1, 0, 0, 0, 0) := rfl
theorem e86_11 (x : Int32) (ls : mL) (σ : mS) : ev 86 11 ls [.int x] σ = some (some (.int x), σ) := e_iret k86_11 rfl
theorem k86_12 : cod 86 12 = some (.aload_n 0, 1, 0, 0, 0, 0) := rfl
theorem e86_12 (x : Nat) (ls : mL) (st : List Value) (σ : mS) : ev 86 12 (some (.ref x) :: ls) st σ = ev 86 13 (some (.ref x) :: ls) (.ref x :: st) σ := e_aload1 k86_12 rfl
theorem k86_13 : cod 86 13 = some (.getfield 10, 3, 7, 0, 0, 3) := rfl
theorem e86_13 (t : Nat) (ls : mL) (st : List Value) (σ : mS) : ev 86 13 ls (.ref t :: st) σ = gfK (σ.1 t) 7 0 (fun v => ev 86 16 ls (v :: st) σ) := e_getf k86_13
theorem k86_16 : cod 86 16 = some (.getfield 82, 3, 4, 1, 1, 0) := rfl
theorem e86_16 (t : Nat) (ls : mL) (st : List Value) (σ : mS) : ev 86 16 ls (.ref t :: st) σ = gfK (σ.1 t) 4 1 (fun v => ev 86 19 ls (v :: st) σ) := e_getf k86_16
theorem k86_19 : cod 86 19 = some (.iload_n 3, 1, 0, 0, 0, 0) := rfl
theorem e86_19 (a0 a1 a2 : Option Value) (x : Int32) (ls : mL) (st : List Value) (σ : mS) : ev 86 19 (a0 :: a1 :: a2 :: some (.int x) :: ls) st σ = ev 86 20 (a0 :: a1 :: a2 :: some (.int x) :: ls) (.int x :: st) σ := e_iload1 k86_19 rfl
theorem k86_20 : cod 86 20 = some (.iadd, 1, 0, 0, 0, 0) := rfl
theorem e86_20 (x y : Int32) (ls : mL) (st : List Value) (σ : mS) : ev 86 20 ls (.int y :: .int x :: st) σ = ev 86 21 ls (.int (x + y) :: st) σ := e_iadd k86_20
theorem k86_21 : cod 86 21 = some (.sipush (600), 3, 0, 0, 0, 0) := rfl
theorem e86_21 (ls : mL) (st : List Value) (σ : mS) : ev 86 21 ls st σ = ev 86 24 ls (.int 600 :: st) σ := e_sipush 600 k86_21 (by decide)
theorem k86_24 : cod 86 24 = some (.if_icmp .le (6), 3, 30, 0, 0, 0) := rfl
theorem e86_24 (x y : Int32) (ls : mL) (st : List Value) (σ : mS) : ev 86 24 ls (.int y :: .int x :: st) σ = if x ≤ y then ev 86 30 ls st σ else ev 86 27 ls st σ := e_ic_le k86_24
theorem k86_27 : cod 86 27 = some (.bipush (-3), 2, 0, 0, 0, 0) := rfl
theorem e86_27 (ls : mL) (st : List Value) (σ : mS) : ev 86 27 ls st σ = ev 86 29 ls (.int (-3) :: st) σ := e_bipush (-3) k86_27 (by decide)
theorem k86_29 : cod 86 29 = some (.ireturn, 1, 0, 0, 0, 0) := rfl
theorem e86_29 (x : Int32) (ls : mL) (σ : mS) : ev 86 29 ls [.int x] σ = some (some (.int x), σ) := e_iret k86_29 rfl
theorem k86_30 : cod 86 30 = some (.iload_n 3, 1, 0, 0, 0, 0) := rfl
theorem e86_30 (a0 a1 a2 : Option Value) (x : Int32) (ls : mL) (st : List Value) (σ : mS) : ev 86 30 (a0 :: a1 :: a2 :: some (.int x) :: ls) st σ = ev 86 31 (a0 :: a1 :: a2 :: some (.int x) :: ls) (.int x :: st) σ := e_iload1 k86_30 rfl
theorem k86_31 : cod 86 31 = some (.iconst 1, 1, 0, 0, 0, 0) := rfl
theorem e86_31 (ls : mL) (st : List Value) (σ : mS) : ev 86 31 ls st σ = ev 86 32 ls (.int 1 :: st) σ := e_iconst 1 k86_31 (by decide)
theorem k86_32 : cod 86 32 = some (.isub, 1, 0, 0, 0, 0) := rfl
theorem e86_32 (x y : Int32) (ls : mL) (st : List Value) (σ : mS) : ev 86 32 ls (.int y :: .int x :: st) σ = ev 86 33 ls (.int (x - y) :: st) σ := e_isub k86_32
theorem k86_33 : cod 86 33 = some (.istore 4, 2, 0, 0, 0, 0) := rfl
theorem e86_33i (a0 a1 a2 : Option Value) (y : Int32) (o : Option Value) (x : Int32) (ls : mL) (st : List Value) (σ : mS) : ev 86 33 (a0 :: a1 :: a2 :: some (.int y) :: o :: ls) (.int x :: st) σ = ev 86 35 (a0 :: a1 :: a2 :: some (.int y) :: some (.int x) :: ls) st σ := e_istore0 k86_33 (Nat.le_add_left 5 ls.length)
theorem e86_33n (a0 a1 a2 : Option Value) (o : Option Value) (x : Int32) (ls : mL) (st : List Value) (σ : mS) : ev 86 33 (a0 :: a1 :: a2 :: none :: o :: ls) (.int x :: st) σ = ev 86 35 (a0 :: a1 :: a2 :: none :: some (.int x) :: ls) st σ := e_istore0 k86_33 (Nat.le_add_left 5 ls.length)
theorem e86_33r (a0 a1 a2 : Option Value) (y : Nat) (o : Option Value) (x : Int32) (ls : mL) (st : List Value) (σ : mS) : ev 86 33 (a0 :: a1 :: a2 :: some (.ref y) :: o :: ls) (.int x :: st) σ = ev 86 35 (a0 :: a1 :: a2 :: some (.ref y) :: some (.int x) :: ls) st σ := e_istore0 k86_33 (Nat.le_add_left 5 ls.length)
theorem k86_35 : cod 86 35 = some (.iload 4, 2, 0, 0, 0, 0) := rfl
theorem e86_35 (a0 a1 a2 a3 : Option Value) (x : Int32) (ls : mL) (st : List Value) (σ : mS) : ev 86 35 (a0 :: a1 :: a2 :: a3 :: some (.int x) :: ls) st σ = ev 86 37 (a0 :: a1 :: a2 :: a3 :: some (.int x) :: ls) (.int x :: st) σ := e_iload0 k86_35 rfl
theorem k86_37 : cod 86 37 = some (.ifCond .lt (28), 3, 65, 0, 0, 0) := rfl
theorem e86_37 (x : Int32) (ls : mL) (st : List Value) (σ : mS) : ev 86 37 ls (.int x :: st) σ = if x < 0 then ev 86 65 ls st σ else ev 86 40 ls st σ := e_if_lt k86_37
theorem k86_40 : cod 86 40 = some (.aload_n 0, 1, 0, 0, 0, 0) := rfl
theorem e86_40 (x : Nat) (ls : mL) (st : List Value) (σ : mS) : ev 86 40 (some (.ref x) :: ls) st σ = ev 86 41 (some (.ref x) :: ls) (.ref x :: st) σ := e_aload1 k86_40 rfl
theorem k86_41 : cod 86 41 = some (.getfield 10, 3, 7, 0, 0, 3) := rfl
theorem e86_41 (t : Nat) (ls : mL) (st : List Value) (σ : mS) : ev 86 41 ls (.ref t :: st) σ = gfK (σ.1 t) 7 0 (fun v => ev 86 44 ls (v :: st) σ) := e_getf k86_41
theorem k86_44 : cod 86 44 = some (.lload_n 1, 1, 0, 0, 0, 0) := rfl
theorem e86_44 (a0 : Option Value) (x : Int64) (ls : mL) (st : List Value) (σ : mS) : ev 86 44 (a0 :: some (.long x) :: ls) st σ = ev 86 45 (a0 :: some (.long x) :: ls) (.long x :: st) σ := e_lload1 k86_44 rfl
theorem k86_45 : cod 86 45 = some (.bipush (8), 2, 0, 0, 0, 0) := rfl
theorem e86_45 (ls : mL) (st : List Value) (σ : mS) : ev 86 45 ls st σ = ev 86 47 ls (.int 8 :: st) σ := e_bipush 8 k86_45 (by decide)
theorem k86_47 : cod 86 47 = some (.iload 4, 2, 0, 0, 0, 0) := rfl
theorem e86_47 (a0 a1 a2 a3 : Option Value) (x : Int32) (ls : mL) (st : List Value) (σ : mS) : ev 86 47 (a0 :: a1 :: a2 :: a3 :: some (.int x) :: ls) st σ = ev 86 49 (a0 :: a1 :: a2 :: a3 :: some (.int x) :: ls) (.int x :: st) σ := e_iload0 k86_47 rfl
theorem k86_49 : cod 86 49 = some (.imul, 1, 0, 0, 0, 0) := rfl
theorem e86_49 (x y : Int32) (ls : mL) (st : List Value) (σ : mS) : ev 86 49 ls (.int y :: .int x :: st) σ = ev 86 50 ls (.int (x * y) :: st) σ := e_imul k86_49
theorem k86_50 : cod 86 50 = some (.lushr, 1, 0, 0, 0, 0) := rfl
theorem e86_50 (x : Int64) (y : Int32) (ls : mL) (st : List Value) (σ : mS) : ev 86 50 ls (.int y :: .long x :: st) σ = ev 86 51 ls (.long ((x.toUInt64 >>> (y.toInt64.toUInt64 &&& Int64.toUInt64 63)).toInt64) :: st) σ := e_lushr k86_50
theorem k86_51 : cod 86 51 = some (.l2i, 1, 0, 0, 0, 0) := rfl
theorem e86_51 (x : Int64) (ls : mL) (st : List Value) (σ : mS) : ev 86 51 ls (.long x :: st) σ = ev 86 52 ls (.int x.toInt32 :: st) σ := e_l2i k86_51
theorem k86_52 : cod 86 52 = some (.sipush (255), 3, 0, 0, 0, 0) := rfl
theorem e86_52 (ls : mL) (st : List Value) (σ : mS) : ev 86 52 ls st σ = ev 86 55 ls (.int 255 :: st) σ := e_sipush 255 k86_52 (by decide)
theorem k86_55 : cod 86 55 = some (.iand, 1, 0, 0, 0, 0) := rfl
theorem e86_55 (x y : Int32) (ls : mL) (st : List Value) (σ : mS) : ev 86 55 ls (.int y :: .int x :: st) σ = ev 86 56 ls (.int (x &&& y) :: st) σ := e_iand k86_55
theorem k86_56 : cod 86 56 = some (.invokevirtual 85, 3, 42, 1, 0, 4) := rfl
theorem e86_56 (t : Nat) (x0 : Int32) (ls : mL) (st : List Value) (σ : mS) (hm : mCat st ≤ 8) : ev 86 56 ls (.int x0 :: .ref t :: st) σ = isC (σ.1 t) 4 ((evM 42 [.ref t, .int x0] σ).bind fun z => ev 86 59 ls (z.1.toList ++ st) z.2) := e_callVK k86_56 (by decide) rfl ⟨hm, Nat.le_of_ble_eq_true rfl⟩
theorem k86_59 : cod 86 59 = some (.iinc 4 (-1), 3, 0, 0, 0, 0) := rfl
theorem e86_59i (a0 a1 a2 : Option Value) (y : Int32) (x : Int32) (ls : mL) (st : List Value) (σ : mS) : ev 86 59 (a0 :: a1 :: a2 :: some (.int y) :: some (.int x) :: ls) st σ = ev 86 62 (a0 :: a1 :: a2 :: some (.int y) :: some (.int (x + (-1))) :: ls) st σ := e_iinc (-1) k86_59 (by decide) rfl
theorem e86_59n (a0 a1 a2 : Option Value) (x : Int32) (ls : mL) (st : List Value) (σ : mS) : ev 86 59 (a0 :: a1 :: a2 :: none :: some (.int x) :: ls) st σ = ev 86 62 (a0 :: a1 :: a2 :: none :: some (.int (x + (-1))) :: ls) st σ := e_iinc (-1) k86_59 (by decide) rfl
theorem e86_59r (a0 a1 a2 : Option Value) (y : Nat) (x : Int32) (ls : mL) (st : List Value) (σ : mS) : ev 86 59 (a0 :: a1 :: a2 :: some (.ref y) :: some (.int x) :: ls) st σ = ev 86 62 (a0 :: a1 :: a2 :: some (.ref y) :: some (.int (x + (-1))) :: ls) st σ := e_iinc (-1) k86_59 (by decide) rfl
theorem k86_62 : cod 86 62 = some (.goto (-27), 3, 35, 0, 0, 0) := rfl
theorem e86_62 (ls : mL) (st : List Value) (σ : mS) : ev 86 62 ls st σ = ev 86 35 ls st σ := e_goto k86_62
theorem k86_65 : cod 86 65 = some (.aload_n 0, 1, 0, 0, 0, 0) := rfl
theorem e86_65 (x : Nat) (ls : mL) (st : List Value) (σ : mS) : ev 86 65 (some (.ref x) :: ls) st σ = ev 86 66 (some (.ref x) :: ls) (.ref x :: st) σ := e_aload1 k86_65 rfl
theorem k86_66 : cod 86 66 = some (.getfield 10, 3, 7, 0, 0, 3) := rfl
theorem e86_66 (t : Nat) (ls : mL) (st : List Value) (σ : mS) : ev 86 66 ls (.ref t :: st) σ = gfK (σ.1 t) 7 0 (fun v => ev 86 69 ls (v :: st) σ) := e_getf k86_66
theorem k86_69 : cod 86 69 = some (.getfield 82, 3, 4, 1, 1, 0) := rfl
theorem e86_69 (t : Nat) (ls : mL) (st : List Value) (σ : mS) : ev 86 69 ls (.ref t :: st) σ = gfK (σ.1 t) 4 1 (fun v => ev 86 72 ls (v :: st) σ) := e_getf k86_69
theorem k86_72 : cod 86 72 = some (.ireturn, 1, 0, 0, 0, 0) := rfl
theorem e86_72 (x : Int32) (ls : mL) (σ : mS) : ev 86 72 ls [.int x] σ = some (some (.int x), σ) := e_iret k86_72 rfl
theorem m86 (t : Nat) (x0 : Int64) (x1 : Int32) (σ : mS) : evM 86 [.ref t, .long x0, .int x1] σ = ev 86 0 [some (.ref t), some (.long x0), none, some (.int x1), none] [] σ := rfl
theorem k87_0 : cod 87 0 = some (.iload_n 0, 1, 0, 0, 0, 0) := rfl
theorem e87_0 (x : Int32) (ls : mL) (st : List Value) (σ : mS) : ev 87 0 (some (.int x) :: ls) st σ = ev 87 1 (some (.int x) :: ls) (.int x :: st) σ := e_iload1 k87_0 rfl
theorem k87_1 : cod 87 1 = some (.iload_n 1, 1, 0, 0, 0, 0) := rfl
theorem e87_1 (a0 : Option Value) (x : Int32) (ls : mL) (st : List Value) (σ : mS) : ev 87 1 (a0 :: some (.int x) :: ls) st σ = ev 87 2 (a0 :: some (.int x) :: ls) (.int x :: st) σ := e_iload1 k87_1 rfl
theorem k87_2 : cod 87 2 = some (.if_icmp .lt (12), 3, 14, 0, 0, 0) := rfl
theorem e87_2 (x y : Int32) (ls : mL) (st : List Value) (σ : mS) : ev 87 2 ls (.int y :: .int x :: st) σ = if x < y then ev 87 14 ls st σ else ev 87 5 ls st σ := e_ic_lt k87_2
theorem k87_5 : cod 87 5 = some (.iload_n 0, 1, 0, 0, 0, 0) := rfl
theorem e87_5 (x : Int32) (ls : mL) (st : List Value) (σ : mS) : ev 87 5 (some (.int x) :: ls) st σ = ev 87 6 (some (.int x) :: ls) (.int x :: st) σ := e_iload1 k87_5 rfl
theorem k87_6 : cod 87 6 = some (.iload_n 2, 1, 0, 0, 0, 0) := rfl
theorem e87_6 (a0 a1 : Option Value) (x : Int32) (ls : mL) (st : List Value) (σ : mS) : ev 87 6 (a0 :: a1 :: some (.int x) :: ls) st σ = ev 87 7 (a0 :: a1 :: some (.int x) :: ls) (.int x :: st) σ := e_iload1 k87_6 rfl
theorem k87_7 : cod 87 7 = some (.if_icmp .gt (7), 3, 14, 0, 0, 0) := rfl
theorem e87_7 (x y : Int32) (ls : mL) (st : List Value) (σ : mS) : ev 87 7 ls (.int y :: .int x :: st) σ = if y < x then ev 87 14 ls st σ else ev 87 10 ls st σ := e_ic_gt k87_7
theorem k87_10 : cod 87 10 = some (.iconst 1, 1, 0, 0, 0, 0) := rfl
theorem e87_10 (ls : mL) (st : List Value) (σ : mS) : ev 87 10 ls st σ = ev 87 11 ls (.int 1 :: st) σ := e_iconst 1 k87_10 (by decide)
theorem k87_11 : cod 87 11 = some (.goto (4), 3, 15, 0, 0, 0) := rfl
theorem e87_11 (ls : mL) (st : List Value) (σ : mS) : ev 87 11 ls st σ = ev 87 15 ls st σ := e_goto k87_11
theorem k87_14 : cod 87 14 = some (.iconst 0, 1, 0, 0, 0, 0) := rfl
theorem e87_14 (ls : mL) (st : List Value) (σ : mS) : ev 87 14 ls st σ = ev 87 15 ls (.int 0 :: st) σ := e_iconst 0 k87_14 (by decide)
theorem k87_15 : cod 87 15 = some (.ireturn, 1, 0, 0, 0, 0) := rfl
theorem e87_15 (x : Int32) (ls : mL) (σ : mS) : ev 87 15 ls [.int x] σ = if x = 0 ∨ x = 1 then some (some (.int x), σ) else none := e_zret k87_15 rfl
theorem e87_15b0 (ls : mL) (σ : mS) : ev 87 15 ls [.int 0] σ = some (some (.int 0), σ) := (e_zret k87_15 rfl).trans (if_pos (Or.inl rfl))
theorem e87_15b1 (ls : mL) (σ : mS) : ev 87 15 ls [.int 1] σ = some (some (.int 1), σ) := (e_zret k87_15 rfl).trans (if_pos (Or.inr rfl))
theorem m87 (x0 : Int32) (x1 : Int32) (x2 : Int32) (σ : mS) : evM 87 [.int x0, .int x1, .int x2] σ = ev 87 0 [some (.int x0), some (.int x1), some (.int x2)] [] σ := rfl
theorem k88_0 : cod 88 0 = some (.aload_n 0, 1, 0, 0, 0, 0) := rfl
theorem e88_0 (x : Nat) (ls : mL) (st : List Value) (σ : mS) : ev 88 0 (some (.ref x) :: ls) st σ = ev 88 1 (some (.ref x) :: ls) (.ref x :: st) σ := e_aload1 k88_0 rfl
theorem k88_1 : cod 88 1 = some (.getfield 10, 3, 7, 0, 0, 3) := rfl
theorem e88_1 (t : Nat) (ls : mL) (st : List Value) (σ : mS) : ev 88 1 ls (.ref t :: st) σ = gfK (σ.1 t) 7 0 (fun v => ev 88 4 ls (v :: st) σ) := e_getf k88_1
theorem k88_4 : cod 88 4 = some (.getfield 82, 3, 4, 1, 1, 0) := rfl
theorem e88_4 (t : Nat) (ls : mL) (st : List Value) (σ : mS) : ev 88 4 ls (.ref t :: st) σ = gfK (σ.1 t) 4 1 (fun v => ev 88 7 ls (v :: st) σ) := e_getf k88_4
theorem k88_7 : cod 88 7 = some (.istore_n 1, 1, 0, 0, 0, 0) := rfl
theorem e88_7i (y : Int32) (o : Option Value) (x : Int32) (ls : mL) (st : List Value) (σ : mS) : ev 88 7 (some (.int y) :: o :: ls) (.int x :: st) σ = ev 88 8 (some (.int y) :: some (.int x) :: ls) st σ := e_istore1 k88_7 (Nat.le_add_left 2 ls.length)
theorem e88_7n (o : Option Value) (x : Int32) (ls : mL) (st : List Value) (σ : mS) : ev 88 7 (none :: o :: ls) (.int x :: st) σ = ev 88 8 (none :: some (.int x) :: ls) st σ := e_istore1 k88_7 (Nat.le_add_left 2 ls.length)
theorem e88_7r (y : Nat) (o : Option Value) (x : Int32) (ls : mL) (st : List Value) (σ : mS) : ev 88 7 (some (.ref y) :: o :: ls) (.int x :: st) σ = ev 88 8 (some (.ref y) :: some (.int x) :: ls) st σ := e_istore1 k88_7 (Nat.le_add_left 2 ls.length)
theorem k88_8 : cod 88 8 = some (.aload_n 0, 1, 0, 0, 0, 0) := rfl
theorem e88_8 (x : Nat) (ls : mL) (st : List Value) (σ : mS) : ev 88 8 (some (.ref x) :: ls) st σ = ev 88 9 (some (.ref x) :: ls) (.ref x :: st) σ := e_aload1 k88_8 rfl
theorem k88_9 : cod 88 9 = some (.getfield 10, 3, 7, 0, 0, 3) := rfl
theorem e88_9 (t : Nat) (ls : mL) (st : List Value) (σ : mS) : ev 88 9 ls (.ref t :: st) σ = gfK (σ.1 t) 7 0 (fun v => ev 88 12 ls (v :: st) σ) := e_getf k88_9
theorem k88_12 : cod 88 12 = some (.iconst 0, 1, 0, 0, 0, 0) := rfl
theorem e88_12 (ls : mL) (st : List Value) (σ : mS) : ev 88 12 ls st σ = ev 88 13 ls (.int 0 :: st) σ := e_iconst 0 k88_12 (by decide)
theorem k88_13 : cod 88 13 = some (.putfield 82, 3, 4, 1, 1, 0) := rfl
theorem e88_13 (x : Int32) (t : Nat) (ls : mL) (st : List Value) (σ : mS) : ev 88 13 ls (.int x :: .ref t :: st) σ = pfK (σ.1 t) 4 1 (.int x) (fun e => ev 88 16 ls st (mset σ t e)) := e_putI k88_13
theorem k88_16 : cod 88 16 = some (.iload_n 1, 1, 0, 0, 0, 0) := rfl
theorem e88_16 (a0 : Option Value) (x : Int32) (ls : mL) (st : List Value) (σ : mS) : ev 88 16 (a0 :: some (.int x) :: ls) st σ = ev 88 17 (a0 :: some (.int x) :: ls) (.int x :: st) σ := e_iload1 k88_16 rfl
theorem k88_17 : cod 88 17 = some (.ireturn, 1, 0, 0, 0, 0) := rfl
theorem e88_17 (x : Int32) (ls : mL) (σ : mS) : ev 88 17 ls [.int x] σ = some (some (.int x), σ) := e_iret k88_17 rfl
theorem m88 (t : Nat) (σ : mS) : evM 88 [.ref t] σ = ev 88 0 [some (.ref t), none] [] σ := rfl
theorem k89_0 : cod 89 0 = some (.aload_n 0, 1, 0, 0, 0, 0) := rfl
theorem e89_0 (x : Nat) (ls : mL) (st : List Value) (σ : mS) : ev 89 0 (some (.ref x) :: ls) st σ = ev 89 1 (some (.ref x) :: ls) (.ref x :: st) σ := e_aload1 k89_0 rfl
theorem k89_1 : cod 89 1 = some (.getfield 19, 3, 7, 1, 0, 3) := rfl
theorem e89_1 (t : Nat) (ls : mL) (st : List Value) (σ : mS) : ev 89 1 ls (.ref t :: st) σ = gfK (σ.1 t) 7 1 (fun v => ev 89 4 ls (v :: st) σ) := e_getf k89_1
theorem k89_4 : cod 89 4 = some (.aload_n 0, 1, 0, 0, 0, 0) := rfl
theorem e89_4 (x : Nat) (ls : mL) (st : List Value) (σ : mS) : ev 89 4 (some (.ref x) :: ls) st σ = ev 89 5 (some (.ref x) :: ls) (.ref x :: st) σ := e_aload1 k89_4 rfl
theorem k89_5 : cod 89 5 = some (.getfield 30, 3, 7, 3, 0, 3) := rfl
theorem e89_5 (t : Nat) (ls : mL) (st : List Value) (σ : mS) : ev 89 5 ls (.ref t :: st) σ = gfK (σ.1 t) 7 3 (fun v => ev 89 8 ls (v :: st) σ) := e_getf k89_5
theorem k89_8 : cod 89 8 = some (.aload_n 0, 1, 0, 0, 0, 0) := rfl
theorem e89_8 (x : Nat) (ls : mL) (st : List Value) (σ : mS) : ev 89 8 (some (.ref x) :: ls) st σ = ev 89 9 (some (.ref x) :: ls) (.ref x :: st) σ := e_aload1 k89_8 rfl
theorem k89_9 : cod 89 9 = some (.getfield 10, 3, 7, 0, 0, 3) := rfl
theorem e89_9 (t : Nat) (ls : mL) (st : List Value) (σ : mS) : ev 89 9 ls (.ref t :: st) σ = gfK (σ.1 t) 7 0 (fun v => ev 89 12 ls (v :: st) σ) := e_getf k89_9
theorem k89_12 : cod 89 12 = some (.invokevirtual 89, 3, 22, 2, 0, 1) := rfl
theorem e89_12 (t : Nat) (x0 : Nat) (x1 : Nat) (ls : mL) (st : List Value) (σ : mS) (hm : mCat st ≤ 8) : ev 89 12 ls (.ref x1 :: .ref x0 :: .ref t :: st) σ = isC (σ.1 t) 1 ((evM 22 [.ref t, .ref x0, .ref x1] σ).bind fun z => ev 89 15 ls (z.1.toList ++ st) z.2) := e_callVK k89_12 (by decide) rfl ⟨hm, Nat.le_of_ble_eq_true rfl⟩
theorem k89_15 : cod 89 15 = some (.istore_n 1, 1, 0, 0, 0, 0) := rfl
theorem e89_15i (y : Int32) (o : Option Value) (x : Int32) (ls : mL) (st : List Value) (σ : mS) : ev 89 15 (some (.int y) :: o :: ls) (.int x :: st) σ = ev 89 16 (some (.int y) :: some (.int x) :: ls) st σ := e_istore1 k89_15 (Nat.le_add_left 2 ls.length)
theorem e89_15n (o : Option Value) (x : Int32) (ls : mL) (st : List Value) (σ : mS) : ev 89 15 (none :: o :: ls) (.int x :: st) σ = ev 89 16 (none :: some (.int x) :: ls) st σ := e_istore1 k89_15 (Nat.le_add_left 2 ls.length)
theorem e89_15r (y : Nat) (o : Option Value) (x : Int32) (ls : mL) (st : List Value) (σ : mS) : ev 89 15 (some (.ref y) :: o :: ls) (.int x :: st) σ = ev 89 16 (some (.ref y) :: some (.int x) :: ls) st σ := e_istore1 k89_15 (Nat.le_add_left 2 ls.length)
theorem k89_16 : cod 89 16 = some (.iload_n 1, 1, 0, 0, 0, 0) := rfl
theorem e89_16 (a0 : Option Value) (x : Int32) (ls : mL) (st : List Value) (σ : mS) : ev 89 16 (a0 :: some (.int x) :: ls) st σ = ev 89 17 (a0 :: some (.int x) :: ls) (.int x :: st) σ := e_iload1 k89_16 rfl
theorem k89_17 : cod 89 17 = some (.ifCond .lt (8), 3, 25, 0, 0, 0) := rfl
theorem e89_17 (x : Int32) (ls : mL) (st : List Value) (σ : mS) : ev 89 17 ls (.int x :: st) σ = if x < 0 then ev 89 25 ls st σ else ev 89 20 ls st σ := e_if_lt k89_17
theorem k89_20 : cod 89 20 = some (.bipush (-10), 2, 0, 0, 0, 0) := rfl
theorem e89_20 (ls : mL) (st : List Value) (σ : mS) : ev 89 20 ls st σ = ev 89 22 ls (.int (-10) :: st) σ := e_bipush (-10) k89_20 (by decide)
theorem k89_22 : cod 89 22 = some (.iload_n 1, 1, 0, 0, 0, 0) := rfl
theorem e89_22 (a0 : Option Value) (x : Int32) (ls : mL) (st : List Value) (σ : mS) : ev 89 22 (a0 :: some (.int x) :: ls) st σ = ev 89 23 (a0 :: some (.int x) :: ls) (.int x :: st) σ := e_iload1 k89_22 rfl
theorem k89_23 : cod 89 23 = some (.isub, 1, 0, 0, 0, 0) := rfl
theorem e89_23 (x y : Int32) (ls : mL) (st : List Value) (σ : mS) : ev 89 23 ls (.int y :: .int x :: st) σ = ev 89 24 ls (.int (x - y) :: st) σ := e_isub k89_23
theorem k89_24 : cod 89 24 = some (.ireturn, 1, 0, 0, 0, 0) := rfl
theorem e89_24 (x : Int32) (ls : mL) (σ : mS) : ev 89 24 ls [.int x] σ = some (some (.int x), σ) := e_iret k89_24 rfl
theorem k89_25 : cod 89 25 = some (.aload_n 0, 1, 0, 0, 0, 0) := rfl
theorem e89_25 (x : Nat) (ls : mL) (st : List Value) (σ : mS) : ev 89 25 (some (.ref x) :: ls) st σ = ev 89 26 (some (.ref x) :: ls) (.ref x :: st) σ := e_aload1 k89_25 rfl
theorem k89_26 : cod 89 26 = some (.getfield 30, 3, 7, 3, 0, 3) := rfl
theorem e89_26 (t : Nat) (ls : mL) (st : List Value) (σ : mS) : ev 89 26 ls (.ref t :: st) σ = gfK (σ.1 t) 7 3 (fun v => ev 89 29 ls (v :: st) σ) := e_getf k89_26
theorem k89_29 : cod 89 29 = some (.astore_n 2, 1, 0, 0, 0, 0) := rfl
theorem e89_29i (a0 : Option Value) (y : Int32) (o : Option Value) (x : Nat) (ls : mL) (st : List Value) (σ : mS) : ev 89 29 (a0 :: some (.int y) :: o :: ls) (.ref x :: st) σ = ev 89 30 (a0 :: some (.int y) :: some (.ref x) :: ls) st σ := e_astore1 k89_29 (Nat.le_add_left 3 ls.length)
theorem e89_29n (a0 : Option Value) (o : Option Value) (x : Nat) (ls : mL) (st : List Value) (σ : mS) : ev 89 29 (a0 :: none :: o :: ls) (.ref x :: st) σ = ev 89 30 (a0 :: none :: some (.ref x) :: ls) st σ := e_astore1 k89_29 (Nat.le_add_left 3 ls.length)
theorem e89_29r (a0 : Option Value) (y : Nat) (o : Option Value) (x : Nat) (ls : mL) (st : List Value) (σ : mS) : ev 89 29 (a0 :: some (.ref y) :: o :: ls) (.ref x :: st) σ = ev 89 30 (a0 :: some (.ref y) :: some (.ref x) :: ls) st σ := e_astore1 k89_29 (Nat.le_add_left 3 ls.length)
theorem k89_30 : cod 89 30 = some (.aload_n 0, 1, 0, 0, 0, 0) := rfl
theorem e89_30 (x : Nat) (ls : mL) (st : List Value) (σ : mS) : ev 89 30 (some (.ref x) :: ls) st σ = ev 89 31 (some (.ref x) :: ls) (.ref x :: st) σ := e_aload1 k89_30 rfl
theorem k89_31 : cod 89 31 = some (.aload_n 0, 1, 0, 0, 0, 0) := rfl
theorem e89_31 (x : Nat) (ls : mL) (st : List Value) (σ : mS) : ev 89 31 (some (.ref x) :: ls) st σ = ev 89 32 (some (.ref x) :: ls) (.ref x :: st) σ := e_aload1 k89_31 rfl
theorem k89_32 : cod 89 32 = some (.getfield 26, 3, 7, 2, 0, 3) := rfl
theorem e89_32 (t : Nat) (ls : mL) (st : List Value) (σ : mS) : ev 89 32 ls (.ref t :: st) σ = gfK (σ.1 t) 7 2 (fun v => ev 89 35 ls (v :: st) σ) := e_getf k89_32
theorem k89_35 : cod 89 35 = some (.putfield 30, 3, 7, 3, 0, 3) := rfl
theorem e89_35 (x : Nat) (t : Nat) (ls : mL) (st : List Value) (σ : mS) : ev 89 35 ls (.ref x :: .ref t :: st) σ = pfK (σ.1 t) 7 3 (.ref x) (fun e => ev 89 38 ls st (mset σ t e)) := e_putR k89_35
theorem k89_38 : cod 89 38 = some (.aload_n 0, 1, 0, 0, 0, 0) := rfl
theorem e89_38 (x : Nat) (ls : mL) (st : List Value) (σ : mS) : ev 89 38 (some (.ref x) :: ls) st σ = ev 89 39 (some (.ref x) :: ls) (.ref x :: st) σ := e_aload1 k89_38 rfl
theorem k89_39 : cod 89 39 = some (.aload_n 2, 1, 0, 0, 0, 0) := rfl
theorem e89_39 (a0 a1 : Option Value) (x : Nat) (ls : mL) (st : List Value) (σ : mS) : ev 89 39 (a0 :: a1 :: some (.ref x) :: ls) st σ = ev 89 40 (a0 :: a1 :: some (.ref x) :: ls) (.ref x :: st) σ := e_aload1 k89_39 rfl
theorem k89_40 : cod 89 40 = some (.putfield 26, 3, 7, 2, 0, 3) := rfl
theorem e89_40 (x : Nat) (t : Nat) (ls : mL) (st : List Value) (σ : mS) : ev 89 40 ls (.ref x :: .ref t :: st) σ = pfK (σ.1 t) 7 2 (.ref x) (fun e => ev 89 43 ls st (mset σ t e)) := e_putR k89_40
theorem k89_43 : cod 89 43 = some (.aload_n 0, 1, 0, 0, 0, 0) := rfl
theorem e89_43 (x : Nat) (ls : mL) (st : List Value) (σ : mS) : ev 89 43 (some (.ref x) :: ls) st σ = ev 89 44 (some (.ref x) :: ls) (.ref x :: st) σ := e_aload1 k89_43 rfl
theorem k89_44 : cod 89 44 = some (.getfield 26, 3, 7, 2, 0, 3) := rfl
theorem e89_44 (t : Nat) (ls : mL) (st : List Value) (σ : mS) : ev 89 44 ls (.ref t :: st) σ = gfK (σ.1 t) 7 2 (fun v => ev 89 47 ls (v :: st) σ) := e_getf k89_44
theorem k89_47 : cod 89 47 = some (.invokevirtual 61, 3, 59, 0, 0, 6) := rfl
theorem e89_47 (t : Nat) (ls : mL) (st : List Value) (σ : mS) (hm : mCat st ≤ 8) : ev 89 47 ls (.ref t :: st) σ = isC (σ.1 t) 6 ((evM 59 [.ref t] σ).bind fun z => ev 89 50 ls (z.1.toList ++ st) z.2) := e_callVK k89_47 (by decide) rfl ⟨hm, Nat.le_of_ble_eq_true rfl⟩
theorem k89_50 : cod 89 50 = some (.aload_n 0, 1, 0, 0, 0, 0) := rfl
theorem e89_50 (x : Nat) (ls : mL) (st : List Value) (σ : mS) : ev 89 50 (some (.ref x) :: ls) st σ = ev 89 51 (some (.ref x) :: ls) (.ref x :: st) σ := e_aload1 k89_50 rfl
theorem k89_51 : cod 89 51 = some (.getfield 26, 3, 7, 2, 0, 3) := rfl
theorem e89_51 (t : Nat) (ls : mL) (st : List Value) (σ : mS) : ev 89 51 ls (.ref t :: st) σ = gfK (σ.1 t) 7 2 (fun v => ev 89 54 ls (v :: st) σ) := e_getf k89_51
theorem k89_54 : cod 89 54 = some (.getfield 64, 3, 6, 16, 1, 3) := rfl
theorem e89_54 (t : Nat) (ls : mL) (st : List Value) (σ : mS) : ev 89 54 ls (.ref t :: st) σ = gfK (σ.1 t) 6 16 (fun v => ev 89 57 ls (v :: st) σ) := e_getf k89_54
theorem k89_57 : cod 89 57 = some (.aload_n 0, 1, 0, 0, 0, 0) := rfl
theorem e89_57 (x : Nat) (ls : mL) (st : List Value) (σ : mS) : ev 89 57 (some (.ref x) :: ls) st σ = ev 89 58 (some (.ref x) :: ls) (.ref x :: st) σ := e_aload1 k89_57 rfl
theorem k89_58 : cod 89 58 = some (.getfield 26, 3, 7, 2, 0, 3) := rfl
theorem e89_58 (t : Nat) (ls : mL) (st : List Value) (σ : mS) : ev 89 58 ls (.ref t :: st) σ = gfK (σ.1 t) 7 2 (fun v => ev 89 61 ls (v :: st) σ) := e_getf k89_58
theorem k89_61 : cod 89 61 = some (.invokevirtual 68, 3, 28, 1, 0, 2) := rfl
theorem e89_61 (t : Nat) (x0 : Nat) (ls : mL) (st : List Value) (σ : mS) (hm : mCat st ≤ 8) : ev 89 61 ls (.ref x0 :: .ref t :: st) σ = isC (σ.1 t) 2 ((evM 28 [.ref t, .ref x0] σ).bind fun z => ev 89 64 ls (z.1.toList ++ st) z.2) := e_callVK k89_61 (by decide) rfl ⟨hm, Nat.le_of_ble_eq_true rfl⟩
theorem k89_64 : cod 89 64 = some (.aload_n 0, 1, 0, 0, 0, 0) := rfl
theorem e89_64 (x : Nat) (ls : mL) (st : List Value) (σ : mS) : ev 89 64 (some (.ref x) :: ls) st σ = ev 89 65 (some (.ref x) :: ls) (.ref x :: st) σ := e_aload1 k89_64 rfl
theorem k89_65 : cod 89 65 = some (.getfield 10, 3, 7, 0, 0, 3) := rfl
theorem e89_65 (t : Nat) (ls : mL) (st : List Value) (σ : mS) : ev 89 65 ls (.ref t :: st) σ = gfK (σ.1 t) 7 0 (fun v => ev 89 68 ls (v :: st) σ) := e_getf k89_65
theorem k89_68 : cod 89 68 = some (.iconst 0, 1, 0, 0, 0, 0) := rfl
theorem e89_68 (ls : mL) (st : List Value) (σ : mS) : ev 89 68 ls st σ = ev 89 69 ls (.int 0 :: st) σ := e_iconst 0 k89_68 (by decide)
theorem k89_69 : cod 89 69 = some (.putfield 82, 3, 4, 1, 1, 0) := rfl
theorem e89_69 (x : Int32) (t : Nat) (ls : mL) (st : List Value) (σ : mS) : ev 89 69 ls (.int x :: .ref t :: st) σ = pfK (σ.1 t) 4 1 (.int x) (fun e => ev 89 72 ls st (mset σ t e)) := e_putI k89_69
theorem k89_72 : cod 89 72 = some (.aload_n 0, 1, 0, 0, 0, 0) := rfl
theorem e89_72 (x : Nat) (ls : mL) (st : List Value) (σ : mS) : ev 89 72 (some (.ref x) :: ls) st σ = ev 89 73 (some (.ref x) :: ls) (.ref x :: st) σ := e_aload1 k89_72 rfl
theorem k89_73 : cod 89 73 = some (.getfield 26, 3, 7, 2, 0, 3) := rfl
theorem e89_73 (t : Nat) (ls : mL) (st : List Value) (σ : mS) : ev 89 73 ls (.ref t :: st) σ = gfK (σ.1 t) 7 2 (fun v => ev 89 76 ls (v :: st) σ) := e_getf k89_73
theorem k89_76 : cod 89 76 = some (.getfield 93, 3, 6, 5, 1, 0) := rfl
theorem e89_76 (t : Nat) (ls : mL) (st : List Value) (σ : mS) : ev 89 76 ls (.ref t :: st) σ = gfK (σ.1 t) 6 5 (fun v => ev 89 79 ls (v :: st) σ) := e_getf k89_76
theorem k89_79 : cod 89 79 = some (.ireturn, 1, 0, 0, 0, 0) := rfl
theorem e89_79 (x : Int32) (ls : mL) (σ : mS) : ev 89 79 ls [.int x] σ = some (some (.int x), σ) := e_iret k89_79 rfl
theorem m89 (t : Nat) (σ : mS) : evM 89 [.ref t] σ = ev 89 0 [some (.ref t), none, none] [] σ := rfl
theorem k90_0 : cod 90 0 = some (.iload_n 1, 1, 0, 0, 0, 0) := rfl
theorem e90_0 (a0 : Option Value) (x : Int32) (ls : mL) (st : List Value) (σ : mS) : ev 90 0 (a0 :: some (.int x) :: ls) st σ = ev 90 1 (a0 :: some (.int x) :: ls) (.int x :: st) σ := e_iload1 k90_0 rfl
theorem k90_1 : cod 90 1 = some (.tableswitch (75) (0) (4) #[35, 43, 51, 59, 67], 35, 0, 0, 0, 0) := rfl
theorem e90_1 (x : Int32) (ls : mL) (st : List Value) (σ : mS) : ev 90 1 ls (.int x :: st) σ = if x = 0 then ev 90 36 ls st σ else if x = 1 then ev 90 44 ls st σ else if x = 2 then ev 90 52 ls st σ else if x = 3 then ev 90 60 ls st σ else if x = 4 then ev 90 68 ls st σ else ev 90 76 ls st σ := by
  rw [e_sw k90_1]
  by_cases h0 : x = 0
  · subst h0; rfl
  rw [if_neg h0]
  by_cases h1 : x = 1
  · subst h1; rfl
  rw [if_neg h1]
  by_cases h2 : x = 2
  · subst h2; rfl
  rw [if_neg h2]
  by_cases h3 : x = 3
  · subst h3; rfl
  rw [if_neg h3]
  by_cases h4 : x = 4
  · subst h4; rfl
  rw [if_neg h4]
  rw [swT_out (n := 5) (df := 75) (lo := 0) (hi := 4) (off := #[35, 43, 51, 59, 67]) rfl rfl (by intro j hj; match j, hj with
    | 0, _ => exact h0
    | 1, _ => exact h1
    | 2, _ => exact h2
    | 3, _ => exact h3
    | 4, _ => exact h4
    | j + 5, hj => exact absurd hj (by omega))]
  rfl
theorem k90_36 : cod 90 36 = some (.aload_n 0, 1, 0, 0, 0, 0) := rfl
theorem e90_36 (x : Nat) (ls : mL) (st : List Value) (σ : mS) : ev 90 36 (some (.ref x) :: ls) st σ = ev 90 37 (some (.ref x) :: ls) (.ref x :: st) σ := e_aload1 k90_36 rfl
theorem k90_37 : cod 90 37 = some (.getfield 26, 3, 7, 2, 0, 3) := rfl
theorem e90_37 (t : Nat) (ls : mL) (st : List Value) (σ : mS) : ev 90 37 ls (.ref t :: st) σ = gfK (σ.1 t) 7 2 (fun v => ev 90 40 ls (v :: st) σ) := e_getf k90_37
theorem k90_40 : cod 90 40 = some (.getfield 96, 3, 6, 7, 1, 0) := rfl
theorem e90_40 (t : Nat) (ls : mL) (st : List Value) (σ : mS) : ev 90 40 ls (.ref t :: st) σ = gfK (σ.1 t) 6 7 (fun v => ev 90 43 ls (v :: st) σ) := e_getf k90_40
theorem k90_43 : cod 90 43 = some (.ireturn, 1, 0, 0, 0, 0) := rfl
theorem e90_43 (x : Int32) (ls : mL) (σ : mS) : ev 90 43 ls [.int x] σ = some (some (.int x), σ) := e_iret k90_43 rfl
theorem k90_44 : cod 90 44 = some (.aload_n 0, 1, 0, 0, 0, 0) := rfl
theorem e90_44 (x : Nat) (ls : mL) (st : List Value) (σ : mS) : ev 90 44 (some (.ref x) :: ls) st σ = ev 90 45 (some (.ref x) :: ls) (.ref x :: st) σ := e_aload1 k90_44 rfl
theorem k90_45 : cod 90 45 = some (.getfield 26, 3, 7, 2, 0, 3) := rfl
theorem e90_45 (t : Nat) (ls : mL) (st : List Value) (σ : mS) : ev 90 45 ls (.ref t :: st) σ = gfK (σ.1 t) 7 2 (fun v => ev 90 48 ls (v :: st) σ) := e_getf k90_45
theorem k90_48 : cod 90 48 = some (.getfield 99, 3, 6, 8, 1, 0) := rfl
theorem e90_48 (t : Nat) (ls : mL) (st : List Value) (σ : mS) : ev 90 48 ls (.ref t :: st) σ = gfK (σ.1 t) 6 8 (fun v => ev 90 51 ls (v :: st) σ) := e_getf k90_48
theorem k90_51 : cod 90 51 = some (.ireturn, 1, 0, 0, 0, 0) := rfl
theorem e90_51 (x : Int32) (ls : mL) (σ : mS) : ev 90 51 ls [.int x] σ = some (some (.int x), σ) := e_iret k90_51 rfl
theorem k90_52 : cod 90 52 = some (.aload_n 0, 1, 0, 0, 0, 0) := rfl
theorem e90_52 (x : Nat) (ls : mL) (st : List Value) (σ : mS) : ev 90 52 (some (.ref x) :: ls) st σ = ev 90 53 (some (.ref x) :: ls) (.ref x :: st) σ := e_aload1 k90_52 rfl
theorem k90_53 : cod 90 53 = some (.getfield 26, 3, 7, 2, 0, 3) := rfl
theorem e90_53 (t : Nat) (ls : mL) (st : List Value) (σ : mS) : ev 90 53 ls (.ref t :: st) σ = gfK (σ.1 t) 7 2 (fun v => ev 90 56 ls (v :: st) σ) := e_getf k90_53
theorem k90_56 : cod 90 56 = some (.getfield 57, 3, 6, 9, 1, 0) := rfl
theorem e90_56 (t : Nat) (ls : mL) (st : List Value) (σ : mS) : ev 90 56 ls (.ref t :: st) σ = gfK (σ.1 t) 6 9 (fun v => ev 90 59 ls (v :: st) σ) := e_getf k90_56
theorem k90_59 : cod 90 59 = some (.ireturn, 1, 0, 0, 0, 0) := rfl
theorem e90_59 (x : Int32) (ls : mL) (σ : mS) : ev 90 59 ls [.int x] σ = some (some (.int x), σ) := e_iret k90_59 rfl
theorem k90_60 : cod 90 60 = some (.aload_n 0, 1, 0, 0, 0, 0) := rfl
theorem e90_60 (x : Nat) (ls : mL) (st : List Value) (σ : mS) : ev 90 60 (some (.ref x) :: ls) st σ = ev 90 61 (some (.ref x) :: ls) (.ref x :: st) σ := e_aload1 k90_60 rfl
theorem k90_61 : cod 90 61 = some (.getfield 26, 3, 7, 2, 0, 3) := rfl
theorem e90_61 (t : Nat) (ls : mL) (st : List Value) (σ : mS) : ev 90 61 ls (.ref t :: st) σ = gfK (σ.1 t) 7 2 (fun v => ev 90 64 ls (v :: st) σ) := e_getf k90_61
theorem k90_64 : cod 90 64 = some (.getfield 102, 3, 6, 10, 1, 0) := rfl
theorem e90_64 (t : Nat) (ls : mL) (st : List Value) (σ : mS) : ev 90 64 ls (.ref t :: st) σ = gfK (σ.1 t) 6 10 (fun v => ev 90 67 ls (v :: st) σ) := e_getf k90_64
theorem k90_67 : cod 90 67 = some (.ireturn, 1, 0, 0, 0, 0) := rfl
theorem e90_67 (x : Int32) (ls : mL) (σ : mS) : ev 90 67 ls [.int x] σ = some (some (.int x), σ) := e_iret k90_67 rfl
theorem k90_68 : cod 90 68 = some (.aload_n 0, 1, 0, 0, 0, 0) := rfl
theorem e90_68 (x : Nat) (ls : mL) (st : List Value) (σ : mS) : ev 90 68 (some (.ref x) :: ls) st σ = ev 90 69 (some (.ref x) :: ls) (.ref x :: st) σ := e_aload1 k90_68 rfl
theorem k90_69 : cod 90 69 = some (.getfield 26, 3, 7, 2, 0, 3) := rfl
theorem e90_69 (t : Nat) (ls : mL) (st : List Value) (σ : mS) : ev 90 69 ls (.ref t :: st) σ = gfK (σ.1 t) 7 2 (fun v => ev 90 72 ls (v :: st) σ) := e_getf k90_69
theorem k90_72 : cod 90 72 = some (.getfield 105, 3, 6, 11, 1, 0) := rfl
theorem e90_72 (t : Nat) (ls : mL) (st : List Value) (σ : mS) : ev 90 72 ls (.ref t :: st) σ = gfK (σ.1 t) 6 11 (fun v => ev 90 75 ls (v :: st) σ) := e_getf k90_72
theorem k90_75 : cod 90 75 = some (.ireturn, 1, 0, 0, 0, 0) := rfl
theorem e90_75 (x : Int32) (ls : mL) (σ : mS) : ev 90 75 ls [.int x] σ = some (some (.int x), σ) := e_iret k90_75 rfl
theorem k90_76 : cod 90 76 = some (.iconst (-1), 1, 0, 0, 0, 0) := rfl
theorem e90_76 (ls : mL) (st : List Value) (σ : mS) : ev 90 76 ls st σ = ev 90 77 ls (.int (-1) :: st) σ := e_iconst (-1) k90_76 (by decide)
theorem k90_77 : cod 90 77 = some (.ireturn, 1, 0, 0, 0, 0) := rfl
theorem e90_77 (x : Int32) (ls : mL) (σ : mS) : ev 90 77 ls [.int x] σ = some (some (.int x), σ) := e_iret k90_77 rfl
theorem m90 (t : Nat) (x0 : Int32) (σ : mS) : evM 90 [.ref t, .int x0] σ = ev 90 0 [some (.ref t), some (.int x0)] [] σ := rfl
theorem k91_0 : cod 91 0 = some (.iload_n 1, 1, 0, 0, 0, 0) := rfl
theorem e91_0 (a0 : Option Value) (x : Int32) (ls : mL) (st : List Value) (σ : mS) : ev 91 0 (a0 :: some (.int x) :: ls) st σ = ev 91 1 (a0 :: some (.int x) :: ls) (.int x :: st) σ := e_iload1 k91_0 rfl
theorem k91_1 : cod 91 1 = some (.invokestatic 108, 3, 85, 1, 0, 0) := rfl
theorem e91_1 (x0 : Int32) (ls : mL) (st : List Value) (σ : mS) (hm : mCat st ≤ 8) : ev 91 1 ls (.int x0 :: st) σ = (evM 85 [.int x0] σ).bind fun z => ev 91 4 ls (z.1.toList ++ st) z.2 := e_callS k91_1 (by decide) rfl ⟨hm, Nat.le_of_ble_eq_true rfl⟩
theorem k91_4 : cod 91 4 = some (.ifCond .eq (29), 3, 33, 0, 0, 0) := rfl
theorem e91_4 (x : Int32) (ls : mL) (st : List Value) (σ : mS) : ev 91 4 ls (.int x :: st) σ = if x = 0 then ev 91 33 ls st σ else ev 91 7 ls st σ := e_if_eq k91_4
theorem k91_7 : cod 91 7 = some (.iload_n 2, 1, 0, 0, 0, 0) := rfl
theorem e91_7 (a0 a1 : Option Value) (x : Int32) (ls : mL) (st : List Value) (σ : mS) : ev 91 7 (a0 :: a1 :: some (.int x) :: ls) st σ = ev 91 8 (a0 :: a1 :: some (.int x) :: ls) (.int x :: st) σ := e_iload1 k91_7 rfl
theorem k91_8 : cod 91 8 = some (.invokestatic 112, 3, 92, 1, 0, 0) := rfl
theorem e91_8 (x0 : Int32) (ls : mL) (st : List Value) (σ : mS) (hm : mCat st ≤ 8) : ev 91 8 ls (.int x0 :: st) σ = (evM 92 [.int x0] σ).bind fun z => ev 91 11 ls (z.1.toList ++ st) z.2 := e_callS k91_8 (by decide) rfl ⟨hm, Nat.le_of_ble_eq_true rfl⟩
theorem k91_11 : cod 91 11 = some (.ifCond .eq (22), 3, 33, 0, 0, 0) := rfl
theorem e91_11 (x : Int32) (ls : mL) (st : List Value) (σ : mS) : ev 91 11 ls (.int x :: st) σ = if x = 0 then ev 91 33 ls st σ else ev 91 14 ls st σ := e_if_eq k91_11
theorem k91_14 : cod 91 14 = some (.iload_n 3, 1, 0, 0, 0, 0) := rfl
theorem e91_14 (a0 a1 a2 : Option Value) (x : Int32) (ls : mL) (st : List Value) (σ : mS) : ev 91 14 (a0 :: a1 :: a2 :: some (.int x) :: ls) st σ = ev 91 15 (a0 :: a1 :: a2 :: some (.int x) :: ls) (.int x :: st) σ := e_iload1 k91_14 rfl
theorem k91_15 : cod 91 15 = some (.iconst (-1), 1, 0, 0, 0, 0) := rfl
theorem e91_15 (ls : mL) (st : List Value) (σ : mS) : ev 91 15 ls st σ = ev 91 16 ls (.int (-1) :: st) σ := e_iconst (-1) k91_15 (by decide)
theorem k91_16 : cod 91 16 = some (.aload_n 0, 1, 0, 0, 0, 0) := rfl
theorem e91_16 (x : Nat) (ls : mL) (st : List Value) (σ : mS) : ev 91 16 (some (.ref x) :: ls) st σ = ev 91 17 (some (.ref x) :: ls) (.ref x :: st) σ := e_aload1 k91_16 rfl
theorem k91_17 : cod 91 17 = some (.getfield 26, 3, 7, 2, 0, 3) := rfl
theorem e91_17 (t : Nat) (ls : mL) (st : List Value) (σ : mS) : ev 91 17 ls (.ref t :: st) σ = gfK (σ.1 t) 7 2 (fun v => ev 91 20 ls (v :: st) σ) := e_getf k91_17
theorem k91_20 : cod 91 20 = some (.iload_n 1, 1, 0, 0, 0, 0) := rfl
theorem e91_20 (a0 : Option Value) (x : Int32) (ls : mL) (st : List Value) (σ : mS) : ev 91 20 (a0 :: some (.int x) :: ls) st σ = ev 91 21 (a0 :: some (.int x) :: ls) (.int x :: st) σ := e_iload1 k91_20 rfl
theorem k91_21 : cod 91 21 = some (.iload_n 2, 1, 0, 0, 0, 0) := rfl
theorem e91_21 (a0 a1 : Option Value) (x : Int32) (ls : mL) (st : List Value) (σ : mS) : ev 91 21 (a0 :: a1 :: some (.int x) :: ls) st σ = ev 91 22 (a0 :: a1 :: some (.int x) :: ls) (.int x :: st) σ := e_iload1 k91_21 rfl
theorem k91_22 : cod 91 22 = some (.invokevirtual 115, 3, 62, 2, 0, 6) := rfl
theorem e91_22 (t : Nat) (x0 : Int32) (x1 : Int32) (ls : mL) (st : List Value) (σ : mS) (hm : mCat st ≤ 8) : ev 91 22 ls (.int x1 :: .int x0 :: .ref t :: st) σ = isC (σ.1 t) 6 ((evM 62 [.ref t, .int x0, .int x1] σ).bind fun z => ev 91 25 ls (z.1.toList ++ st) z.2) := e_callVK k91_22 (by decide) rfl ⟨hm, Nat.le_of_ble_eq_true rfl⟩
theorem k91_25 : cod 91 25 = some (.iconst 1, 1, 0, 0, 0, 0) := rfl
theorem e91_25 (ls : mL) (st : List Value) (σ : mS) : ev 91 25 ls st σ = ev 91 26 ls (.int 1 :: st) σ := e_iconst 1 k91_25 (by decide)
theorem k91_26 : cod 91 26 = some (.isub, 1, 0, 0, 0, 0) := rfl
theorem e91_26 (x y : Int32) (ls : mL) (st : List Value) (σ : mS) : ev 91 26 ls (.int y :: .int x :: st) σ = ev 91 27 ls (.int (x - y) :: st) σ := e_isub k91_26
theorem k91_27 : cod 91 27 = some (.invokestatic 78, 3, 87, 3, 0, 0) := rfl
theorem e91_27 (x0 : Int32) (x1 : Int32) (x2 : Int32) (ls : mL) (st : List Value) (σ : mS) (hm : mCat st ≤ 8) : ev 91 27 ls (.int x2 :: .int x1 :: .int x0 :: st) σ = (evM 87 [.int x0, .int x1, .int x2] σ).bind fun z => ev 91 30 ls (z.1.toList ++ st) z.2 := e_callS k91_27 (by decide) rfl ⟨hm, Nat.le_of_ble_eq_true rfl⟩
theorem k91_30 : cod 91 30 = some (.ifCond .ne (5), 3, 35, 0, 0, 0) := rfl
theorem e91_30 (x : Int32) (ls : mL) (st : List Value) (σ : mS) : ev 91 30 ls (.int x :: st) σ = if x = 0 then ev 91 33 ls st σ else ev 91 35 ls st σ := e_if_ne k91_30
theorem k91_33 : cod 91 33 = some (.iconst (-1), 1, 0, 0, 0, 0) := rfl
theorem e91_33 (ls : mL) (st : List Value) (σ : mS) : ev 91 33 ls st σ = ev 91 34 ls (.int (-1) :: st) σ := e_iconst (-1) k91_33 (by decide)
theorem k91_34 : cod 91 34 = some (.ireturn, 1, 0, 0, 0, 0) := rfl
theorem e91_34 (x : Int32) (ls : mL) (σ : mS) : ev 91 34 ls [.int x] σ = some (some (.int x), σ) := e_iret k91_34 rfl
theorem k91_35 : cod 91 35 = some (.iload_n 3, 1, 0, 0, 0, 0) := rfl
theorem e91_35 (a0 a1 a2 : Option Value) (x : Int32) (ls : mL) (st : List Value) (σ : mS) : ev 91 35 (a0 :: a1 :: a2 :: some (.int x) :: ls) st σ = ev 91 36 (a0 :: a1 :: a2 :: some (.int x) :: ls) (.int x :: st) σ := e_iload1 k91_35 rfl
theorem k91_36 : cod 91 36 = some (.ifCond .ge (15), 3, 51, 0, 0, 0) := rfl
theorem e91_36 (x : Int32) (ls : mL) (st : List Value) (σ : mS) : ev 91 36 ls (.int x :: st) σ = if 0 ≤ x then ev 91 51 ls st σ else ev 91 39 ls st σ := e_if_ge k91_36
theorem k91_39 : cod 91 39 = some (.aload_n 0, 1, 0, 0, 0, 0) := rfl
theorem e91_39 (x : Nat) (ls : mL) (st : List Value) (σ : mS) : ev 91 39 (some (.ref x) :: ls) st σ = ev 91 40 (some (.ref x) :: ls) (.ref x :: st) σ := e_aload1 k91_39 rfl
theorem k91_40 : cod 91 40 = some (.getfield 26, 3, 7, 2, 0, 3) := rfl
theorem e91_40 (t : Nat) (ls : mL) (st : List Value) (σ : mS) : ev 91 40 ls (.ref t :: st) σ = gfK (σ.1 t) 7 2 (fun v => ev 91 43 ls (v :: st) σ) := e_getf k91_40
theorem k91_43 : cod 91 43 = some (.iload_n 1, 1, 0, 0, 0, 0) := rfl
theorem e91_43 (a0 : Option Value) (x : Int32) (ls : mL) (st : List Value) (σ : mS) : ev 91 43 (a0 :: some (.int x) :: ls) st σ = ev 91 44 (a0 :: some (.int x) :: ls) (.int x :: st) σ := e_iload1 k91_43 rfl
theorem k91_44 : cod 91 44 = some (.iload_n 2, 1, 0, 0, 0, 0) := rfl
theorem e91_44 (a0 a1 : Option Value) (x : Int32) (ls : mL) (st : List Value) (σ : mS) : ev 91 44 (a0 :: a1 :: some (.int x) :: ls) st σ = ev 91 45 (a0 :: a1 :: some (.int x) :: ls) (.int x :: st) σ := e_iload1 k91_44 rfl
theorem k91_45 : cod 91 45 = some (.invokevirtual 115, 3, 62, 2, 0, 6) := rfl
theorem e91_45 (t : Nat) (x0 : Int32) (x1 : Int32) (ls : mL) (st : List Value) (σ : mS) (hm : mCat st ≤ 8) : ev 91 45 ls (.int x1 :: .int x0 :: .ref t :: st) σ = isC (σ.1 t) 6 ((evM 62 [.ref t, .int x0, .int x1] σ).bind fun z => ev 91 48 ls (z.1.toList ++ st) z.2) := e_callVK k91_45 (by decide) rfl ⟨hm, Nat.le_of_ble_eq_true rfl⟩
theorem k91_48 : cod 91 48 = some (.goto (13), 3, 61, 0, 0, 0) := rfl
theorem e91_48 (ls : mL) (st : List Value) (σ : mS) : ev 91 48 ls st σ = ev 91 61 ls st σ := e_goto k91_48
theorem k91_51 : cod 91 51 = some (.aload_n 0, 1, 0, 0, 0, 0) := rfl
theorem e91_51 (x : Nat) (ls : mL) (st : List Value) (σ : mS) : ev 91 51 (some (.ref x) :: ls) st σ = ev 91 52 (some (.ref x) :: ls) (.ref x :: st) σ := e_aload1 k91_51 rfl
theorem k91_52 : cod 91 52 = some (.getfield 26, 3, 7, 2, 0, 3) := rfl
theorem e91_52 (t : Nat) (ls : mL) (st : List Value) (σ : mS) : ev 91 52 ls (.ref t :: st) σ = gfK (σ.1 t) 7 2 (fun v => ev 91 55 ls (v :: st) σ) := e_getf k91_52
theorem k91_55 : cod 91 55 = some (.iload_n 1, 1, 0, 0, 0, 0) := rfl
theorem e91_55 (a0 : Option Value) (x : Int32) (ls : mL) (st : List Value) (σ : mS) : ev 91 55 (a0 :: some (.int x) :: ls) st σ = ev 91 56 (a0 :: some (.int x) :: ls) (.int x :: st) σ := e_iload1 k91_55 rfl
theorem k91_56 : cod 91 56 = some (.iload_n 2, 1, 0, 0, 0, 0) := rfl
theorem e91_56 (a0 a1 : Option Value) (x : Int32) (ls : mL) (st : List Value) (σ : mS) : ev 91 56 (a0 :: a1 :: some (.int x) :: ls) st σ = ev 91 57 (a0 :: a1 :: some (.int x) :: ls) (.int x :: st) σ := e_iload1 k91_56 rfl
theorem k91_57 : cod 91 57 = some (.iload_n 3, 1, 0, 0, 0, 0) := rfl
theorem e91_57 (a0 a1 a2 : Option Value) (x : Int32) (ls : mL) (st : List Value) (σ : mS) : ev 91 57 (a0 :: a1 :: a2 :: some (.int x) :: ls) st σ = ev 91 58 (a0 :: a1 :: a2 :: some (.int x) :: ls) (.int x :: st) σ := e_iload1 k91_57 rfl
theorem k91_58 : cod 91 58 = some (.invokevirtual 118, 3, 73, 3, 0, 6) := rfl
theorem e91_58 (t : Nat) (x0 : Int32) (x1 : Int32) (x2 : Int32) (ls : mL) (st : List Value) (σ : mS) (hm : mCat st ≤ 8) : ev 91 58 ls (.int x2 :: .int x1 :: .int x0 :: .ref t :: st) σ = isC (σ.1 t) 6 ((evM 73 [.ref t, .int x0, .int x1, .int x2] σ).bind fun z => ev 91 61 ls (z.1.toList ++ st) z.2) := e_callVK k91_58 (by decide) rfl ⟨hm, Nat.le_of_ble_eq_true rfl⟩
theorem k91_61 : cod 91 61 = some (.ireturn, 1, 0, 0, 0, 0) := rfl
theorem e91_61 (x : Int32) (ls : mL) (σ : mS) : ev 91 61 ls [.int x] σ = some (some (.int x), σ) := e_iret k91_61 rfl
theorem m91 (t : Nat) (x0 : Int32) (x1 : Int32) (x2 : Int32) (σ : mS) : evM 91 [.ref t, .int x0, .int x1, .int x2] σ = ev 91 0 [some (.ref t), some (.int x0), some (.int x1), some (.int x2)] [] σ := rfl
theorem k92_0 : cod 92 0 = some (.iload_n 0, 1, 0, 0, 0, 0) := rfl
theorem e92_0 (x : Int32) (ls : mL) (st : List Value) (σ : mS) : ev 92 0 (some (.int x) :: ls) st σ = ev 92 1 (some (.int x) :: ls) (.int x :: st) σ := e_iload1 k92_0 rfl
theorem k92_1 : cod 92 1 = some (.ifCond .lt (13), 3, 14, 0, 0, 0) := rfl
theorem e92_1 (x : Int32) (ls : mL) (st : List Value) (σ : mS) : ev 92 1 ls (.int x :: st) σ = if x < 0 then ev 92 14 ls st σ else ev 92 4 ls st σ := e_if_lt k92_1
theorem k92_4 : cod 92 4 = some (.iload_n 0, 1, 0, 0, 0, 0) := rfl
theorem e92_4 (x : Int32) (ls : mL) (st : List Value) (σ : mS) : ev 92 4 (some (.int x) :: ls) st σ = ev 92 5 (some (.int x) :: ls) (.int x :: st) σ := e_iload1 k92_4 rfl
theorem k92_5 : cod 92 5 = some (.bipush (8), 2, 0, 0, 0, 0) := rfl
theorem e92_5 (ls : mL) (st : List Value) (σ : mS) : ev 92 5 ls st σ = ev 92 7 ls (.int 8 :: st) σ := e_bipush 8 k92_5 (by decide)
theorem k92_7 : cod 92 7 = some (.if_icmp .ge (7), 3, 14, 0, 0, 0) := rfl
theorem e92_7 (x y : Int32) (ls : mL) (st : List Value) (σ : mS) : ev 92 7 ls (.int y :: .int x :: st) σ = if y ≤ x then ev 92 14 ls st σ else ev 92 10 ls st σ := e_ic_ge k92_7
theorem k92_10 : cod 92 10 = some (.iconst 1, 1, 0, 0, 0, 0) := rfl
theorem e92_10 (ls : mL) (st : List Value) (σ : mS) : ev 92 10 ls st σ = ev 92 11 ls (.int 1 :: st) σ := e_iconst 1 k92_10 (by decide)
theorem k92_11 : cod 92 11 = some (.goto (4), 3, 15, 0, 0, 0) := rfl
theorem e92_11 (ls : mL) (st : List Value) (σ : mS) : ev 92 11 ls st σ = ev 92 15 ls st σ := e_goto k92_11
theorem k92_14 : cod 92 14 = some (.iconst 0, 1, 0, 0, 0, 0) := rfl
theorem e92_14 (ls : mL) (st : List Value) (σ : mS) : ev 92 14 ls st σ = ev 92 15 ls (.int 0 :: st) σ := e_iconst 0 k92_14 (by decide)
theorem k92_15 : cod 92 15 = some (.ireturn, 1, 0, 0, 0, 0) := rfl
theorem e92_15 (x : Int32) (ls : mL) (σ : mS) : ev 92 15 ls [.int x] σ = if x = 0 ∨ x = 1 then some (some (.int x), σ) else none := e_zret k92_15 rfl
theorem e92_15b0 (ls : mL) (σ : mS) : ev 92 15 ls [.int 0] σ = some (some (.int 0), σ) := (e_zret k92_15 rfl).trans (if_pos (Or.inl rfl))
theorem e92_15b1 (ls : mL) (σ : mS) : ev 92 15 ls [.int 1] σ = some (some (.int 1), σ) := (e_zret k92_15 rfl).trans (if_pos (Or.inr rfl))
theorem m92 (x0 : Int32) (σ : mS) : evM 92 [.int x0] σ = ev 92 0 [some (.int x0)] [] σ := rfl
theorem k93_0 : cod 93 0 = some (.iload_n 1, 1, 0, 0, 0, 0) := rfl
theorem e93_0 (a0 : Option Value) (x : Int32) (ls : mL) (st : List Value) (σ : mS) : ev 93 0 (a0 :: some (.int x) :: ls) st σ = ev 93 1 (a0 :: some (.int x) :: ls) (.int x :: st) σ := e_iload1 k93_0 rfl
theorem k93_1 : cod 93 1 = some (.invokestatic 108, 3, 85, 1, 0, 0) := rfl
theorem e93_1 (x0 : Int32) (ls : mL) (st : List Value) (σ : mS) (hm : mCat st ≤ 8) : ev 93 1 ls (.int x0 :: st) σ = (evM 85 [.int x0] σ).bind fun z => ev 93 4 ls (z.1.toList ++ st) z.2 := e_callS k93_1 (by decide) rfl ⟨hm, Nat.le_of_ble_eq_true rfl⟩
theorem k93_4 : cod 93 4 = some (.ifCond .eq (14), 3, 18, 0, 0, 0) := rfl
theorem e93_4 (x : Int32) (ls : mL) (st : List Value) (σ : mS) : ev 93 4 ls (.int x :: st) σ = if x = 0 then ev 93 18 ls st σ else ev 93 7 ls st σ := e_if_eq k93_4
theorem k93_7 : cod 93 7 = some (.aload_n 0, 1, 0, 0, 0, 0) := rfl
theorem e93_7 (x : Nat) (ls : mL) (st : List Value) (σ : mS) : ev 93 7 (some (.ref x) :: ls) st σ = ev 93 8 (some (.ref x) :: ls) (.ref x :: st) σ := e_aload1 k93_7 rfl
theorem k93_8 : cod 93 8 = some (.getfield 26, 3, 7, 2, 0, 3) := rfl
theorem e93_8 (t : Nat) (ls : mL) (st : List Value) (σ : mS) : ev 93 8 ls (.ref t :: st) σ = gfK (σ.1 t) 7 2 (fun v => ev 93 11 ls (v :: st) σ) := e_getf k93_8
theorem k93_11 : cod 93 11 = some (.iload_n 1, 1, 0, 0, 0, 0) := rfl
theorem e93_11 (a0 : Option Value) (x : Int32) (ls : mL) (st : List Value) (σ : mS) : ev 93 11 (a0 :: some (.int x) :: ls) st σ = ev 93 12 (a0 :: some (.int x) :: ls) (.int x :: st) σ := e_iload1 k93_11 rfl
theorem k93_12 : cod 93 12 = some (.invokevirtual 122, 3, 74, 1, 0, 6) := rfl
theorem e93_12 (t : Nat) (x0 : Int32) (ls : mL) (st : List Value) (σ : mS) (hm : mCat st ≤ 8) : ev 93 12 ls (.int x0 :: .ref t :: st) σ = isC (σ.1 t) 6 ((evM 74 [.ref t, .int x0] σ).bind fun z => ev 93 15 ls (z.1.toList ++ st) z.2) := e_callVK k93_12 (by decide) rfl ⟨hm, Nat.le_of_ble_eq_true rfl⟩
theorem k93_15 : cod 93 15 = some (.goto (4), 3, 19, 0, 0, 0) := rfl
theorem e93_15 (ls : mL) (st : List Value) (σ : mS) : ev 93 15 ls st σ = ev 93 19 ls st σ := e_goto k93_15
theorem k93_18 : cod 93 18 = some (.iconst (-1), 1, 0, 0, 0, 0) := rfl
theorem e93_18 (ls : mL) (st : List Value) (σ : mS) : ev 93 18 ls st σ = ev 93 19 ls (.int (-1) :: st) σ := e_iconst (-1) k93_18 (by decide)
theorem k93_19 : cod 93 19 = some (.ireturn, 1, 0, 0, 0, 0) := rfl
theorem e93_19 (x : Int32) (ls : mL) (σ : mS) : ev 93 19 ls [.int x] σ = some (some (.int x), σ) := e_iret k93_19 rfl
theorem m93 (t : Nat) (x0 : Int32) (σ : mS) : evM 93 [.ref t, .int x0] σ = ev 93 0 [some (.ref t), some (.int x0)] [] σ := rfl
theorem k94_0 : cod 94 0 = some (.iload_n 1, 1, 0, 0, 0, 0) := rfl
theorem e94_0 (a0 : Option Value) (x : Int32) (ls : mL) (st : List Value) (σ : mS) : ev 94 0 (a0 :: some (.int x) :: ls) st σ = ev 94 1 (a0 :: some (.int x) :: ls) (.int x :: st) σ := e_iload1 k94_0 rfl
theorem k94_1 : cod 94 1 = some (.invokestatic 108, 3, 85, 1, 0, 0) := rfl
theorem e94_1 (x0 : Int32) (ls : mL) (st : List Value) (σ : mS) (hm : mCat st ≤ 8) : ev 94 1 ls (.int x0 :: st) σ = (evM 85 [.int x0] σ).bind fun z => ev 94 4 ls (z.1.toList ++ st) z.2 := e_callS k94_1 (by decide) rfl ⟨hm, Nat.le_of_ble_eq_true rfl⟩
theorem k94_4 : cod 94 4 = some (.ifCond .eq (14), 3, 18, 0, 0, 0) := rfl
theorem e94_4 (x : Int32) (ls : mL) (st : List Value) (σ : mS) : ev 94 4 ls (.int x :: st) σ = if x = 0 then ev 94 18 ls st σ else ev 94 7 ls st σ := e_if_eq k94_4
theorem k94_7 : cod 94 7 = some (.aload_n 0, 1, 0, 0, 0, 0) := rfl
theorem e94_7 (x : Nat) (ls : mL) (st : List Value) (σ : mS) : ev 94 7 (some (.ref x) :: ls) st σ = ev 94 8 (some (.ref x) :: ls) (.ref x :: st) σ := e_aload1 k94_7 rfl
theorem k94_8 : cod 94 8 = some (.getfield 26, 3, 7, 2, 0, 3) := rfl
theorem e94_8 (t : Nat) (ls : mL) (st : List Value) (σ : mS) : ev 94 8 ls (.ref t :: st) σ = gfK (σ.1 t) 7 2 (fun v => ev 94 11 ls (v :: st) σ) := e_getf k94_8
theorem k94_11 : cod 94 11 = some (.iload_n 1, 1, 0, 0, 0, 0) := rfl
theorem e94_11 (a0 : Option Value) (x : Int32) (ls : mL) (st : List Value) (σ : mS) : ev 94 11 (a0 :: some (.int x) :: ls) st σ = ev 94 12 (a0 :: some (.int x) :: ls) (.int x :: st) σ := e_iload1 k94_11 rfl
theorem k94_12 : cod 94 12 = some (.invokevirtual 126, 3, 75, 1, 0, 6) := rfl
theorem e94_12 (t : Nat) (x0 : Int32) (ls : mL) (st : List Value) (σ : mS) (hm : mCat st ≤ 8) : ev 94 12 ls (.int x0 :: .ref t :: st) σ = isC (σ.1 t) 6 ((evM 75 [.ref t, .int x0] σ).bind fun z => ev 94 15 ls (z.1.toList ++ st) z.2) := e_callVK k94_12 (by decide) rfl ⟨hm, Nat.le_of_ble_eq_true rfl⟩
theorem k94_15 : cod 94 15 = some (.goto (4), 3, 19, 0, 0, 0) := rfl
theorem e94_15 (ls : mL) (st : List Value) (σ : mS) : ev 94 15 ls st σ = ev 94 19 ls st σ := e_goto k94_15
theorem k94_18 : cod 94 18 = some (.iconst (-1), 1, 0, 0, 0, 0) := rfl
theorem e94_18 (ls : mL) (st : List Value) (σ : mS) : ev 94 18 ls st σ = ev 94 19 ls (.int (-1) :: st) σ := e_iconst (-1) k94_18 (by decide)
theorem k94_19 : cod 94 19 = some (.ireturn, 1, 0, 0, 0, 0) := rfl
theorem e94_19 (x : Int32) (ls : mL) (σ : mS) : ev 94 19 ls [.int x] σ = some (some (.int x), σ) := e_iret k94_19 rfl
theorem m94 (t : Nat) (x0 : Int32) (σ : mS) : evM 94 [.ref t, .int x0] σ = ev 94 0 [some (.ref t), some (.int x0)] [] σ := rfl
theorem k95_0 : cod 95 0 = some (.iload_n 1, 1, 0, 0, 0, 0) := rfl
theorem e95_0 (a0 : Option Value) (x : Int32) (ls : mL) (st : List Value) (σ : mS) : ev 95 0 (a0 :: some (.int x) :: ls) st σ = ev 95 1 (a0 :: some (.int x) :: ls) (.int x :: st) σ := e_iload1 k95_0 rfl
theorem k95_1 : cod 95 1 = some (.invokestatic 108, 3, 85, 1, 0, 0) := rfl
theorem e95_1 (x0 : Int32) (ls : mL) (st : List Value) (σ : mS) (hm : mCat st ≤ 8) : ev 95 1 ls (.int x0 :: st) σ = (evM 85 [.int x0] σ).bind fun z => ev 95 4 ls (z.1.toList ++ st) z.2 := e_callS k95_1 (by decide) rfl ⟨hm, Nat.le_of_ble_eq_true rfl⟩
theorem k95_4 : cod 95 4 = some (.ifCond .eq (21), 3, 25, 0, 0, 0) := rfl
theorem e95_4 (x : Int32) (ls : mL) (st : List Value) (σ : mS) : ev 95 4 ls (.int x :: st) σ = if x = 0 then ev 95 25 ls st σ else ev 95 7 ls st σ := e_if_eq k95_4
theorem k95_7 : cod 95 7 = some (.iload_n 2, 1, 0, 0, 0, 0) := rfl
theorem e95_7 (a0 a1 : Option Value) (x : Int32) (ls : mL) (st : List Value) (σ : mS) : ev 95 7 (a0 :: a1 :: some (.int x) :: ls) st σ = ev 95 8 (a0 :: a1 :: some (.int x) :: ls) (.int x :: st) σ := e_iload1 k95_7 rfl
theorem k95_8 : cod 95 8 = some (.iconst 1, 1, 0, 0, 0, 0) := rfl
theorem e95_8 (ls : mL) (st : List Value) (σ : mS) : ev 95 8 ls st σ = ev 95 9 ls (.int 1 :: st) σ := e_iconst 1 k95_8 (by decide)
theorem k95_9 : cod 95 9 = some (.iconst 2, 1, 0, 0, 0, 0) := rfl
theorem e95_9 (ls : mL) (st : List Value) (σ : mS) : ev 95 9 ls st σ = ev 95 10 ls (.int 2 :: st) σ := e_iconst 2 k95_9 (by decide)
theorem k95_10 : cod 95 10 = some (.invokestatic 78, 3, 87, 3, 0, 0) := rfl
theorem e95_10 (x0 : Int32) (x1 : Int32) (x2 : Int32) (ls : mL) (st : List Value) (σ : mS) (hm : mCat st ≤ 8) : ev 95 10 ls (.int x2 :: .int x1 :: .int x0 :: st) σ = (evM 87 [.int x0, .int x1, .int x2] σ).bind fun z => ev 95 13 ls (z.1.toList ++ st) z.2 := e_callS k95_10 (by decide) rfl ⟨hm, Nat.le_of_ble_eq_true rfl⟩
theorem k95_13 : cod 95 13 = some (.ifCond .eq (12), 3, 25, 0, 0, 0) := rfl
theorem e95_13 (x : Int32) (ls : mL) (st : List Value) (σ : mS) : ev 95 13 ls (.int x :: st) σ = if x = 0 then ev 95 25 ls st σ else ev 95 16 ls st σ := e_if_eq k95_13
theorem k95_16 : cod 95 16 = some (.iload_n 3, 1, 0, 0, 0, 0) := rfl
theorem e95_16 (a0 a1 a2 : Option Value) (x : Int32) (ls : mL) (st : List Value) (σ : mS) : ev 95 16 (a0 :: a1 :: a2 :: some (.int x) :: ls) st σ = ev 95 17 (a0 :: a1 :: a2 :: some (.int x) :: ls) (.int x :: st) σ := e_iload1 k95_16 rfl
theorem k95_17 : cod 95 17 = some (.iconst 0, 1, 0, 0, 0, 0) := rfl
theorem e95_17 (ls : mL) (st : List Value) (σ : mS) : ev 95 17 ls st σ = ev 95 18 ls (.int 0 :: st) σ := e_iconst 0 k95_17 (by decide)
theorem k95_18 : cod 95 18 = some (.iconst 1, 1, 0, 0, 0, 0) := rfl
theorem e95_18 (ls : mL) (st : List Value) (σ : mS) : ev 95 18 ls st σ = ev 95 19 ls (.int 1 :: st) σ := e_iconst 1 k95_18 (by decide)
theorem k95_19 : cod 95 19 = some (.invokestatic 78, 3, 87, 3, 0, 0) := rfl
theorem e95_19 (x0 : Int32) (x1 : Int32) (x2 : Int32) (ls : mL) (st : List Value) (σ : mS) (hm : mCat st ≤ 8) : ev 95 19 ls (.int x2 :: .int x1 :: .int x0 :: st) σ = (evM 87 [.int x0, .int x1, .int x2] σ).bind fun z => ev 95 22 ls (z.1.toList ++ st) z.2 := e_callS k95_19 (by decide) rfl ⟨hm, Nat.le_of_ble_eq_true rfl⟩
theorem k95_22 : cod 95 22 = some (.ifCond .ne (5), 3, 27, 0, 0, 0) := rfl
theorem e95_22 (x : Int32) (ls : mL) (st : List Value) (σ : mS) : ev 95 22 ls (.int x :: st) σ = if x = 0 then ev 95 25 ls st σ else ev 95 27 ls st σ := e_if_ne k95_22
theorem k95_25 : cod 95 25 = some (.iconst (-1), 1, 0, 0, 0, 0) := rfl
theorem e95_25 (ls : mL) (st : List Value) (σ : mS) : ev 95 25 ls st σ = ev 95 26 ls (.int (-1) :: st) σ := e_iconst (-1) k95_25 (by decide)
theorem k95_26 : cod 95 26 = some (.ireturn, 1, 0, 0, 0, 0) := rfl
theorem e95_26 (x : Int32) (ls : mL) (σ : mS) : ev 95 26 ls [.int x] σ = some (some (.int x), σ) := e_iret k95_26 rfl
theorem k95_27 : cod 95 27 = some (.iload_n 3, 1, 0, 0, 0, 0) := rfl
theorem e95_27 (a0 a1 a2 : Option Value) (x : Int32) (ls : mL) (st : List Value) (σ : mS) : ev 95 27 (a0 :: a1 :: a2 :: some (.int x) :: ls) st σ = ev 95 28 (a0 :: a1 :: a2 :: some (.int x) :: ls) (.int x :: st) σ := e_iload1 k95_27 rfl
theorem k95_28 : cod 95 28 = some (.ifCond .ne (15), 3, 43, 0, 0, 0) := rfl
theorem e95_28 (x : Int32) (ls : mL) (st : List Value) (σ : mS) : ev 95 28 ls (.int x :: st) σ = if x = 0 then ev 95 31 ls st σ else ev 95 43 ls st σ := e_if_ne k95_28
theorem k95_31 : cod 95 31 = some (.aload_n 0, 1, 0, 0, 0, 0) := rfl
theorem e95_31 (x : Nat) (ls : mL) (st : List Value) (σ : mS) : ev 95 31 (some (.ref x) :: ls) st σ = ev 95 32 (some (.ref x) :: ls) (.ref x :: st) σ := e_aload1 k95_31 rfl
theorem k95_32 : cod 95 32 = some (.getfield 26, 3, 7, 2, 0, 3) := rfl
theorem e95_32 (t : Nat) (ls : mL) (st : List Value) (σ : mS) : ev 95 32 ls (.ref t :: st) σ = gfK (σ.1 t) 7 2 (fun v => ev 95 35 ls (v :: st) σ) := e_getf k95_32
theorem k95_35 : cod 95 35 = some (.iload_n 1, 1, 0, 0, 0, 0) := rfl
theorem e95_35 (a0 : Option Value) (x : Int32) (ls : mL) (st : List Value) (σ : mS) : ev 95 35 (a0 :: some (.int x) :: ls) st σ = ev 95 36 (a0 :: some (.int x) :: ls) (.int x :: st) σ := e_iload1 k95_35 rfl
theorem k95_36 : cod 95 36 = some (.iload_n 2, 1, 0, 0, 0, 0) := rfl
theorem e95_36 (a0 a1 : Option Value) (x : Int32) (ls : mL) (st : List Value) (σ : mS) : ev 95 36 (a0 :: a1 :: some (.int x) :: ls) st σ = ev 95 37 (a0 :: a1 :: some (.int x) :: ls) (.int x :: st) σ := e_iload1 k95_36 rfl
theorem k95_37 : cod 95 37 = some (.invokevirtual 129, 3, 76, 2, 0, 6) := rfl
theorem e95_37 (t : Nat) (x0 : Int32) (x1 : Int32) (ls : mL) (st : List Value) (σ : mS) (hm : mCat st ≤ 8) : ev 95 37 ls (.int x1 :: .int x0 :: .ref t :: st) σ = isC (σ.1 t) 6 ((evM 76 [.ref t, .int x0, .int x1] σ).bind fun z => ev 95 40 ls (z.1.toList ++ st) z.2) := e_callVK k95_37 (by decide) rfl ⟨hm, Nat.le_of_ble_eq_true rfl⟩
theorem k95_40 : cod 95 40 = some (.goto (12), 3, 52, 0, 0, 0) := rfl
theorem e95_40 (ls : mL) (st : List Value) (σ : mS) : ev 95 40 ls st σ = ev 95 52 ls st σ := e_goto k95_40
theorem k95_43 : cod 95 43 = some (.aload_n 0, 1, 0, 0, 0, 0) := rfl
theorem e95_43 (x : Nat) (ls : mL) (st : List Value) (σ : mS) : ev 95 43 (some (.ref x) :: ls) st σ = ev 95 44 (some (.ref x) :: ls) (.ref x :: st) σ := e_aload1 k95_43 rfl
theorem k95_44 : cod 95 44 = some (.getfield 26, 3, 7, 2, 0, 3) := rfl
theorem e95_44 (t : Nat) (ls : mL) (st : List Value) (σ : mS) : ev 95 44 ls (.ref t :: st) σ = gfK (σ.1 t) 7 2 (fun v => ev 95 47 ls (v :: st) σ) := e_getf k95_44
theorem k95_47 : cod 95 47 = some (.iload_n 1, 1, 0, 0, 0, 0) := rfl
theorem e95_47 (a0 : Option Value) (x : Int32) (ls : mL) (st : List Value) (σ : mS) : ev 95 47 (a0 :: some (.int x) :: ls) st σ = ev 95 48 (a0 :: some (.int x) :: ls) (.int x :: st) σ := e_iload1 k95_47 rfl
theorem k95_48 : cod 95 48 = some (.iload_n 2, 1, 0, 0, 0, 0) := rfl
theorem e95_48 (a0 a1 : Option Value) (x : Int32) (ls : mL) (st : List Value) (σ : mS) : ev 95 48 (a0 :: a1 :: some (.int x) :: ls) st σ = ev 95 49 (a0 :: a1 :: some (.int x) :: ls) (.int x :: st) σ := e_iload1 k95_48 rfl
theorem k95_49 : cod 95 49 = some (.invokevirtual 132, 3, 77, 2, 0, 6) := rfl
theorem e95_49 (t : Nat) (x0 : Int32) (x1 : Int32) (ls : mL) (st : List Value) (σ : mS) (hm : mCat st ≤ 8) : ev 95 49 ls (.int x1 :: .int x0 :: .ref t :: st) σ = isC (σ.1 t) 6 ((evM 77 [.ref t, .int x0, .int x1] σ).bind fun z => ev 95 52 ls (z.1.toList ++ st) z.2) := e_callVK k95_49 (by decide) rfl ⟨hm, Nat.le_of_ble_eq_true rfl⟩
theorem k95_52 : cod 95 52 = some (.ireturn, 1, 0, 0, 0, 0) := rfl
theorem e95_52 (x : Int32) (ls : mL) (σ : mS) : ev 95 52 ls [.int x] σ = some (some (.int x), σ) := e_iret k95_52 rfl
theorem m95 (t : Nat) (x0 : Int32) (x1 : Int32) (x2 : Int32) (σ : mS) : evM 95 [.ref t, .int x0, .int x1, .int x2] σ = ev 95 0 [some (.ref t), some (.int x0), some (.int x1), some (.int x2)] [] σ := rfl
theorem k96_0 : cod 96 0 = some (.iload_n 1, 1, 0, 0, 0, 0) := rfl
theorem e96_0 (a0 : Option Value) (x : Int32) (ls : mL) (st : List Value) (σ : mS) : ev 96 0 (a0 :: some (.int x) :: ls) st σ = ev 96 1 (a0 :: some (.int x) :: ls) (.int x :: st) σ := e_iload1 k96_0 rfl
theorem k96_1 : cod 96 1 = some (.invokestatic 108, 3, 85, 1, 0, 0) := rfl
theorem e96_1 (x0 : Int32) (ls : mL) (st : List Value) (σ : mS) (hm : mCat st ≤ 8) : ev 96 1 ls (.int x0 :: st) σ = (evM 85 [.int x0] σ).bind fun z => ev 96 4 ls (z.1.toList ++ st) z.2 := e_callS k96_1 (by decide) rfl ⟨hm, Nat.le_of_ble_eq_true rfl⟩
theorem k96_4 : cod 96 4 = some (.ifCond .eq (19), 3, 23, 0, 0, 0) := rfl
theorem e96_4 (x : Int32) (ls : mL) (st : List Value) (σ : mS) : ev 96 4 ls (.int x :: st) σ = if x = 0 then ev 96 23 ls st σ else ev 96 7 ls st σ := e_if_eq k96_4
theorem k96_7 : cod 96 7 = some (.iload_n 2, 1, 0, 0, 0, 0) := rfl
theorem e96_7 (a0 a1 : Option Value) (x : Int32) (ls : mL) (st : List Value) (σ : mS) : ev 96 7 (a0 :: a1 :: some (.int x) :: ls) st σ = ev 96 8 (a0 :: a1 :: some (.int x) :: ls) (.int x :: st) σ := e_iload1 k96_7 rfl
theorem k96_8 : cod 96 8 = some (.invokestatic 112, 3, 92, 1, 0, 0) := rfl
theorem e96_8 (x0 : Int32) (ls : mL) (st : List Value) (σ : mS) (hm : mCat st ≤ 8) : ev 96 8 ls (.int x0 :: st) σ = (evM 92 [.int x0] σ).bind fun z => ev 96 11 ls (z.1.toList ++ st) z.2 := e_callS k96_8 (by decide) rfl ⟨hm, Nat.le_of_ble_eq_true rfl⟩
theorem k96_11 : cod 96 11 = some (.ifCond .eq (12), 3, 23, 0, 0, 0) := rfl
theorem e96_11 (x : Int32) (ls : mL) (st : List Value) (σ : mS) : ev 96 11 ls (.int x :: st) σ = if x = 0 then ev 96 23 ls st σ else ev 96 14 ls st σ := e_if_eq k96_11
theorem k96_14 : cod 96 14 = some (.aload_n 0, 1, 0, 0, 0, 0) := rfl
theorem e96_14 (x : Nat) (ls : mL) (st : List Value) (σ : mS) : ev 96 14 (some (.ref x) :: ls) st σ = ev 96 15 (some (.ref x) :: ls) (.ref x :: st) σ := e_aload1 k96_14 rfl
theorem k96_15 : cod 96 15 = some (.iload_n 1, 1, 0, 0, 0, 0) := rfl
theorem e96_15 (a0 : Option Value) (x : Int32) (ls : mL) (st : List Value) (σ : mS) : ev 96 15 (a0 :: some (.int x) :: ls) st σ = ev 96 16 (a0 :: some (.int x) :: ls) (.int x :: st) σ := e_iload1 k96_15 rfl
theorem k96_16 : cod 96 16 = some (.iload_n 2, 1, 0, 0, 0, 0) := rfl
theorem e96_16 (a0 a1 : Option Value) (x : Int32) (ls : mL) (st : List Value) (σ : mS) : ev 96 16 (a0 :: a1 :: some (.int x) :: ls) st σ = ev 96 17 (a0 :: a1 :: some (.int x) :: ls) (.int x :: st) σ := e_iload1 k96_16 rfl
theorem k96_17 : cod 96 17 = some (.invokevirtual 135, 3, 97, 2, 0, 7) := rfl
theorem e96_17 (t : Nat) (x0 : Int32) (x1 : Int32) (ls : mL) (st : List Value) (σ : mS) (hm : mCat st ≤ 8) : ev 96 17 ls (.int x1 :: .int x0 :: .ref t :: st) σ = isC (σ.1 t) 7 ((evM 97 [.ref t, .int x0, .int x1] σ).bind fun z => ev 96 20 ls (z.1.toList ++ st) z.2) := e_callVK k96_17 (by decide) rfl ⟨hm, Nat.le_of_ble_eq_true rfl⟩
theorem k96_20 : cod 96 20 = some (.goto (4), 3, 24, 0, 0, 0) := rfl
theorem e96_20 (ls : mL) (st : List Value) (σ : mS) : ev 96 20 ls st σ = ev 96 24 ls st σ := e_goto k96_20
theorem k96_23 : cod 96 23 = some (.iconst (-1), 1, 0, 0, 0, 0) := rfl
theorem e96_23 (ls : mL) (st : List Value) (σ : mS) : ev 96 23 ls st σ = ev 96 24 ls (.int (-1) :: st) σ := e_iconst (-1) k96_23 (by decide)
theorem k96_24 : cod 96 24 = some (.ireturn, 1, 0, 0, 0, 0) := rfl
theorem e96_24 (x : Int32) (ls : mL) (σ : mS) : ev 96 24 ls [.int x] σ = some (some (.int x), σ) := e_iret k96_24 rfl
theorem m96 (t : Nat) (x0 : Int32) (x1 : Int32) (σ : mS) : evM 96 [.ref t, .int x0, .int x1] σ = ev 96 0 [some (.ref t), some (.int x0), some (.int x1)] [] σ := rfl
theorem k97_0 : cod 97 0 = some (.aload_n 0, 1, 0, 0, 0, 0) := rfl
theorem e97_0 (x : Nat) (ls : mL) (st : List Value) (σ : mS) : ev 97 0 (some (.ref x) :: ls) st σ = ev 97 1 (some (.ref x) :: ls) (.ref x :: st) σ := e_aload1 k97_0 rfl
theorem k97_1 : cod 97 1 = some (.getfield 26, 3, 7, 2, 0, 3) := rfl
theorem e97_1 (t : Nat) (ls : mL) (st : List Value) (σ : mS) : ev 97 1 ls (.ref t :: st) σ = gfK (σ.1 t) 7 2 (fun v => ev 97 4 ls (v :: st) σ) := e_getf k97_1
theorem k97_4 : cod 97 4 = some (.iload_n 1, 1, 0, 0, 0, 0) := rfl
theorem e97_4 (a0 : Option Value) (x : Int32) (ls : mL) (st : List Value) (σ : mS) : ev 97 4 (a0 :: some (.int x) :: ls) st σ = ev 97 5 (a0 :: some (.int x) :: ls) (.int x :: st) σ := e_iload1 k97_4 rfl
theorem k97_5 : cod 97 5 = some (.iload_n 2, 1, 0, 0, 0, 0) := rfl
theorem e97_5 (a0 a1 : Option Value) (x : Int32) (ls : mL) (st : List Value) (σ : mS) : ev 97 5 (a0 :: a1 :: some (.int x) :: ls) st σ = ev 97 6 (a0 :: a1 :: some (.int x) :: ls) (.int x :: st) σ := e_iload1 k97_5 rfl
theorem k97_6 : cod 97 6 = some (.invokevirtual 257, 3, 78, 2, 0, 6) := rfl
theorem e97_6 (t : Nat) (x0 : Int32) (x1 : Int32) (ls : mL) (st : List Value) (σ : mS) (hm : mCat st ≤ 8) : ev 97 6 ls (.int x1 :: .int x0 :: .ref t :: st) σ = isC (σ.1 t) 6 ((evM 78 [.ref t, .int x0, .int x1] σ).bind fun z => ev 97 9 ls (z.1.toList ++ st) z.2) := e_callVK k97_6 (by decide) rfl ⟨hm, Nat.le_of_ble_eq_true rfl⟩
theorem k97_9 : cod 97 9 = some (.ifCond .eq (5), 3, 14, 0, 0, 0) := rfl
theorem e97_9 (x : Int32) (ls : mL) (st : List Value) (σ : mS) : ev 97 9 ls (.int x :: st) σ = if x = 0 then ev 97 14 ls st σ else ev 97 12 ls st σ := e_if_eq k97_9
theorem k97_12 : cod 97 12 = some (.iload_n 2, 1, 0, 0, 0, 0) := rfl
theorem e97_12 (a0 a1 : Option Value) (x : Int32) (ls : mL) (st : List Value) (σ : mS) : ev 97 12 (a0 :: a1 :: some (.int x) :: ls) st σ = ev 97 13 (a0 :: a1 :: some (.int x) :: ls) (.int x :: st) σ := e_iload1 k97_12 rfl
theorem k97_13 : cod 97 13 = some (.ireturn, 1, 0, 0, 0, 0) := rfl
theorem e97_13 (x : Int32) (ls : mL) (σ : mS) : ev 97 13 ls [.int x] σ = some (some (.int x), σ) := e_iret k97_13 rfl
theorem k97_14 : cod 97 14 = some (.aload_n 0, 1, 0, 0, 0, 0) := rfl
theorem e97_14 (x : Nat) (ls : mL) (st : List Value) (σ : mS) : ev 97 14 (some (.ref x) :: ls) st σ = ev 97 15 (some (.ref x) :: ls) (.ref x :: st) σ := e_aload1 k97_14 rfl
theorem k97_15 : cod 97 15 = some (.iload_n 1, 1, 0, 0, 0, 0) := rfl
theorem e97_15 (a0 : Option Value) (x : Int32) (ls : mL) (st : List Value) (σ : mS) : ev 97 15 (a0 :: some (.int x) :: ls) st σ = ev 97 16 (a0 :: some (.int x) :: ls) (.int x :: st) σ := e_iload1 k97_15 rfl
theorem k97_16 : cod 97 16 = some (.iload_n 2, 1, 0, 0, 0, 0) := rfl
theorem e97_16 (a0 a1 : Option Value) (x : Int32) (ls : mL) (st : List Value) (σ : mS) : ev 97 16 (a0 :: a1 :: some (.int x) :: ls) st σ = ev 97 17 (a0 :: a1 :: some (.int x) :: ls) (.int x :: st) σ := e_iload1 k97_16 rfl
theorem k97_17 : cod 97 17 = some (.invokevirtual 287, 3, 98, 2, 0, 7) := rfl
theorem e97_17 (t : Nat) (x0 : Int32) (x1 : Int32) (ls : mL) (st : List Value) (σ : mS) (hm : mCat st ≤ 8) : ev 97 17 ls (.int x1 :: .int x0 :: .ref t :: st) σ = isC (σ.1 t) 7 ((evM 98 [.ref t, .int x0, .int x1] σ).bind fun z => ev 97 20 ls (z.1.toList ++ st) z.2) := e_callVK k97_17 (by decide) rfl ⟨hm, Nat.le_of_ble_eq_true rfl⟩
theorem k97_20 : cod 97 20 = some (.istore_n 3, 1, 0, 0, 0, 0) := rfl
theorem e97_20i (a0 a1 : Option Value) (y : Int32) (o : Option Value) (x : Int32) (ls : mL) (st : List Value) (σ : mS) : ev 97 20 (a0 :: a1 :: some (.int y) :: o :: ls) (.int x :: st) σ = ev 97 21 (a0 :: a1 :: some (.int y) :: some (.int x) :: ls) st σ := e_istore1 k97_20 (Nat.le_add_left 4 ls.length)
theorem e97_20n (a0 a1 : Option Value) (o : Option Value) (x : Int32) (ls : mL) (st : List Value) (σ : mS) : ev 97 20 (a0 :: a1 :: none :: o :: ls) (.int x :: st) σ = ev 97 21 (a0 :: a1 :: none :: some (.int x) :: ls) st σ := e_istore1 k97_20 (Nat.le_add_left 4 ls.length)
theorem e97_20r (a0 a1 : Option Value) (y : Nat) (o : Option Value) (x : Int32) (ls : mL) (st : List Value) (σ : mS) : ev 97 20 (a0 :: a1 :: some (.ref y) :: o :: ls) (.int x :: st) σ = ev 97 21 (a0 :: a1 :: some (.ref y) :: some (.int x) :: ls) st σ := e_istore1 k97_20 (Nat.le_add_left 4 ls.length)
theorem k97_21 : cod 97 21 = some (.iload_n 3, 1, 0, 0, 0, 0) := rfl
theorem e97_21 (a0 a1 a2 : Option Value) (x : Int32) (ls : mL) (st : List Value) (σ : mS) : ev 97 21 (a0 :: a1 :: a2 :: some (.int x) :: ls) st σ = ev 97 22 (a0 :: a1 :: a2 :: some (.int x) :: ls) (.int x :: st) σ := e_iload1 k97_21 rfl
theorem k97_22 : cod 97 22 = some (.bipush (-9), 2, 0, 0, 0, 0) := rfl
theorem e97_22 (ls : mL) (st : List Value) (σ : mS) : ev 97 22 ls st σ = ev 97 24 ls (.int (-9) :: st) σ := e_bipush (-9) k97_22 (by decide)
theorem k97_24 : cod 97 24 = some (.if_icmp .ne (17), 3, 41, 0, 0, 0) := rfl
theorem e97_24 (x y : Int32) (ls : mL) (st : List Value) (σ : mS) : ev 97 24 ls (.int y :: .int x :: st) σ = if x = y then ev 97 27 ls st σ else ev 97 41 ls st σ := e_ic_ne k97_24
theorem k97_27 : cod 97 27 = some (.aload_n 0, 1, 0, 0, 0, 0) := rfl
theorem e97_27 (x : Nat) (ls : mL) (st : List Value) (σ : mS) : ev 97 27 (some (.ref x) :: ls) st σ = ev 97 28 (some (.ref x) :: ls) (.ref x :: st) σ := e_aload1 k97_27 rfl
theorem k97_28 : cod 97 28 = some (.getfield 26, 3, 7, 2, 0, 3) := rfl
theorem e97_28 (t : Nat) (ls : mL) (st : List Value) (σ : mS) : ev 97 28 ls (.ref t :: st) σ = gfK (σ.1 t) 7 2 (fun v => ev 97 31 ls (v :: st) σ) := e_getf k97_28
theorem k97_31 : cod 97 31 = some (.getfield 57, 3, 6, 9, 1, 0) := rfl
theorem e97_31 (t : Nat) (ls : mL) (st : List Value) (σ : mS) : ev 97 31 ls (.ref t :: st) σ = gfK (σ.1 t) 6 9 (fun v => ev 97 34 ls (v :: st) σ) := e_getf k97_31
theorem k97_34 : cod 97 34 = some (.iload_n 1, 1, 0, 0, 0, 0) := rfl
theorem e97_34 (a0 : Option Value) (x : Int32) (ls : mL) (st : List Value) (σ : mS) : ev 97 34 (a0 :: some (.int x) :: ls) st σ = ev 97 35 (a0 :: some (.int x) :: ls) (.int x :: st) σ := e_iload1 k97_34 rfl
theorem k97_35 : cod 97 35 = some (.invokestatic 290, 3, 84, 2, 0, 0) := rfl
theorem e97_35 (x0 : Int32) (x1 : Int32) (ls : mL) (st : List Value) (σ : mS) (hm : mCat st ≤ 8) : ev 97 35 ls (.int x1 :: .int x0 :: st) σ = (evM 84 [.int x0, .int x1] σ).bind fun z => ev 97 38 ls (z.1.toList ++ st) z.2 := e_callS k97_35 (by decide) rfl ⟨hm, Nat.le_of_ble_eq_true rfl⟩
theorem k97_38 : cod 97 38 = some (.ifCond .eq (5), 3, 43, 0, 0, 0) := rfl
theorem e97_38 (x : Int32) (ls : mL) (st : List Value) (σ : mS) : ev 97 38 ls (.int x :: st) σ = if x = 0 then ev 97 43 ls st σ else ev 97 41 ls st σ := e_if_eq k97_38
theorem k97_41 : cod 97 41 = some (.iload_n 3, 1, 0, 0, 0, 0) := rfl
theorem e97_41 (a0 a1 a2 : Option Value) (x : Int32) (ls : mL) (st : List Value) (σ : mS) : ev 97 41 (a0 :: a1 :: a2 :: some (.int x) :: ls) st σ = ev 97 42 (a0 :: a1 :: a2 :: some (.int x) :: ls) (.int x :: st) σ := e_iload1 k97_41 rfl
theorem k97_42 : cod 97 42 = some (.ireturn, 1, 0, 0, 0, 0) := rfl
theorem e97_42 (x : Int32) (ls : mL) (σ : mS) : ev 97 42 ls [.int x] σ = some (some (.int x), σ) := e_iret k97_42 rfl
theorem k97_43 : cod 97 43 = some (.aload_n 0, 1, 0, 0, 0, 0) := rfl
theorem e97_43 (x : Nat) (ls : mL) (st : List Value) (σ : mS) : ev 97 43 (some (.ref x) :: ls) st σ = ev 97 44 (some (.ref x) :: ls) (.ref x :: st) σ := e_aload1 k97_43 rfl
theorem k97_44 : cod 97 44 = some (.getfield 26, 3, 7, 2, 0, 3) := rfl
theorem e97_44 (t : Nat) (ls : mL) (st : List Value) (σ : mS) : ev 97 44 ls (.ref t :: st) σ = gfK (σ.1 t) 7 2 (fun v => ev 97 47 ls (v :: st) σ) := e_getf k97_44
theorem k97_47 : cod 97 47 = some (.iload_n 1, 1, 0, 0, 0, 0) := rfl
theorem e97_47 (a0 : Option Value) (x : Int32) (ls : mL) (st : List Value) (σ : mS) : ev 97 47 (a0 :: some (.int x) :: ls) st σ = ev 97 48 (a0 :: some (.int x) :: ls) (.int x :: st) σ := e_iload1 k97_47 rfl
theorem k97_48 : cod 97 48 = some (.invokevirtual 293, 3, 80, 1, 0, 6) := rfl
theorem e97_48 (t : Nat) (x0 : Int32) (ls : mL) (st : List Value) (σ : mS) (hm : mCat st ≤ 8) : ev 97 48 ls (.int x0 :: .ref t :: st) σ = isC (σ.1 t) 6 ((evM 80 [.ref t, .int x0] σ).bind fun z => ev 97 51 ls (z.1.toList ++ st) z.2) := e_callVK k97_48 (by decide) rfl ⟨hm, Nat.le_of_ble_eq_true rfl⟩
theorem k97_51 : cod 97 51 = some (.ireturn, 1, 0, 0, 0, 0) := rfl
theorem e97_51 (x : Int32) (ls : mL) (σ : mS) : ev 97 51 ls [.int x] σ = some (some (.int x), σ) := e_iret k97_51 rfl
theorem m97 (t : Nat) (x0 : Int32) (x1 : Int32) (σ : mS) : evM 97 [.ref t, .int x0, .int x1] σ = ev 97 0 [some (.ref t), some (.int x0), some (.int x1), none] [] σ := rfl
theorem k98_0 : cod 98 0 = some (.bipush (-9), 2, 0, 0, 0, 0) := rfl
theorem e98_0 (ls : mL) (st : List Value) (σ : mS) : ev 98 0 ls st σ = ev 98 2 ls (.int (-9) :: st) σ := e_bipush (-9) k98_0 (by decide)
theorem k98_2 : cod 98 2 = some (.istore_n 3, 1, 0, 0, 0, 0) := rfl
theorem e98_2i (a0 a1 : Option Value) (y : Int32) (o : Option Value) (x : Int32) (ls : mL) (st : List Value) (σ : mS) : ev 98 2 (a0 :: a1 :: some (.int y) :: o :: ls) (.int x :: st) σ = ev 98 3 (a0 :: a1 :: some (.int y) :: some (.int x) :: ls) st σ := e_istore1 k98_2 (Nat.le_add_left 4 ls.length)
theorem e98_2n (a0 a1 : Option Value) (o : Option Value) (x : Int32) (ls : mL) (st : List Value) (σ : mS) : ev 98 2 (a0 :: a1 :: none :: o :: ls) (.int x :: st) σ = ev 98 3 (a0 :: a1 :: none :: some (.int x) :: ls) st σ := e_istore1 k98_2 (Nat.le_add_left 4 ls.length)
theorem e98_2r (a0 a1 : Option Value) (y : Nat) (o : Option Value) (x : Int32) (ls : mL) (st : List Value) (σ : mS) : ev 98 2 (a0 :: a1 :: some (.ref y) :: o :: ls) (.int x :: st) σ = ev 98 3 (a0 :: a1 :: some (.ref y) :: some (.int x) :: ls) st σ := e_istore1 k98_2 (Nat.le_add_left 4 ls.length)
theorem k98_3 : cod 98 3 = some (.iconst 0, 1, 0, 0, 0, 0) := rfl
theorem e98_3 (ls : mL) (st : List Value) (σ : mS) : ev 98 3 ls st σ = ev 98 4 ls (.int 0 :: st) σ := e_iconst 0 k98_3 (by decide)
theorem k98_4 : cod 98 4 = some (.istore 4, 2, 0, 0, 0, 0) := rfl
theorem e98_4i (a0 a1 a2 : Option Value) (y : Int32) (o : Option Value) (x : Int32) (ls : mL) (st : List Value) (σ : mS) : ev 98 4 (a0 :: a1 :: a2 :: some (.int y) :: o :: ls) (.int x :: st) σ = ev 98 6 (a0 :: a1 :: a2 :: some (.int y) :: some (.int x) :: ls) st σ := e_istore0 k98_4 (Nat.le_add_left 5 ls.length)
theorem e98_4n (a0 a1 a2 : Option Value) (o : Option Value) (x : Int32) (ls : mL) (st : List Value) (σ : mS) : ev 98 4 (a0 :: a1 :: a2 :: none :: o :: ls) (.int x :: st) σ = ev 98 6 (a0 :: a1 :: a2 :: none :: some (.int x) :: ls) st σ := e_istore0 k98_4 (Nat.le_add_left 5 ls.length)
theorem e98_4r (a0 a1 a2 : Option Value) (y : Nat) (o : Option Value) (x : Int32) (ls : mL) (st : List Value) (σ : mS) : ev 98 4 (a0 :: a1 :: a2 :: some (.ref y) :: o :: ls) (.int x :: st) σ = ev 98 6 (a0 :: a1 :: a2 :: some (.ref y) :: some (.int x) :: ls) st σ := e_istore0 k98_4 (Nat.le_add_left 5 ls.length)
theorem k98_6 : cod 98 6 = some (.iconst 0, 1, 0, 0, 0, 0) := rfl
theorem e98_6 (ls : mL) (st : List Value) (σ : mS) : ev 98 6 ls st σ = ev 98 7 ls (.int 0 :: st) σ := e_iconst 0 k98_6 (by decide)
theorem k98_7 : cod 98 7 = some (.istore 5, 2, 0, 0, 0, 0) := rfl
theorem e98_7i (a0 a1 a2 a3 : Option Value) (y : Int32) (o : Option Value) (x : Int32) (ls : mL) (st : List Value) (σ : mS) : ev 98 7 (a0 :: a1 :: a2 :: a3 :: some (.int y) :: o :: ls) (.int x :: st) σ = ev 98 9 (a0 :: a1 :: a2 :: a3 :: some (.int y) :: some (.int x) :: ls) st σ := e_istore0 k98_7 (Nat.le_add_left 6 ls.length)
theorem e98_7n (a0 a1 a2 a3 : Option Value) (o : Option Value) (x : Int32) (ls : mL) (st : List Value) (σ : mS) : ev 98 7 (a0 :: a1 :: a2 :: a3 :: none :: o :: ls) (.int x :: st) σ = ev 98 9 (a0 :: a1 :: a2 :: a3 :: none :: some (.int x) :: ls) st σ := e_istore0 k98_7 (Nat.le_add_left 6 ls.length)
theorem e98_7r (a0 a1 a2 a3 : Option Value) (y : Nat) (o : Option Value) (x : Int32) (ls : mL) (st : List Value) (σ : mS) : ev 98 7 (a0 :: a1 :: a2 :: a3 :: some (.ref y) :: o :: ls) (.int x :: st) σ = ev 98 9 (a0 :: a1 :: a2 :: a3 :: some (.ref y) :: some (.int x) :: ls) st σ := e_istore0 k98_7 (Nat.le_add_left 6 ls.length)
theorem k98_9 : cod 98 9 = some (.iload 5, 2, 0, 0, 0, 0) := rfl
theorem e98_9 (a0 a1 a2 a3 a4 : Option Value) (x : Int32) (ls : mL) (st : List Value) (σ : mS) : ev 98 9 (a0 :: a1 :: a2 :: a3 :: a4 :: some (.int x) :: ls) st σ = ev 98 11 (a0 :: a1 :: a2 :: a3 :: a4 :: some (.int x) :: ls) (.int x :: st) σ := e_iload0 k98_9 rfl
theorem k98_11 : cod 98 11 = some (.bipush (8), 2, 0, 0, 0, 0) := rfl
theorem e98_11 (ls : mL) (st : List Value) (σ : mS) : ev 98 11 ls st σ = ev 98 13 ls (.int 8 :: st) σ := e_bipush 8 k98_11 (by decide)
theorem k98_13 : cod 98 13 = some (.if_icmp .ge (60), 3, 73, 0, 0, 0) := rfl
theorem e98_13 (x y : Int32) (ls : mL) (st : List Value) (σ : mS) : ev 98 13 ls (.int y :: .int x :: st) σ = if y ≤ x then ev 98 73 ls st σ else ev 98 16 ls st σ := e_ic_ge k98_13
theorem k98_16 : cod 98 16 = some (.aload_n 0, 1, 0, 0, 0, 0) := rfl
theorem e98_16 (x : Nat) (ls : mL) (st : List Value) (σ : mS) : ev 98 16 (some (.ref x) :: ls) st σ = ev 98 17 (some (.ref x) :: ls) (.ref x :: st) σ := e_aload1 k98_16 rfl
theorem k98_17 : cod 98 17 = some (.getfield 46, 3, 7, 7, 0, 3) := rfl
theorem e98_17 (t : Nat) (ls : mL) (st : List Value) (σ : mS) : ev 98 17 ls (.ref t :: st) σ = gfK (σ.1 t) 7 7 (fun v => ev 98 20 ls (v :: st) σ) := e_getf k98_17
theorem k98_20 : cod 98 20 = some (.iload 5, 2, 0, 0, 0, 0) := rfl
theorem e98_20 (a0 a1 a2 a3 a4 : Option Value) (x : Int32) (ls : mL) (st : List Value) (σ : mS) : ev 98 20 (a0 :: a1 :: a2 :: a3 :: a4 :: some (.int x) :: ls) st σ = ev 98 22 (a0 :: a1 :: a2 :: a3 :: a4 :: some (.int x) :: ls) (.int x :: st) σ := e_iload0 k98_20 rfl
theorem k98_22 : cod 98 22 = some (.iaload, 1, 0, 0, 0, 0) := rfl
theorem e98_22 (j : Int32) (t : Nat) (ls : mL) (st : List Value) (σ : mS) : ev 98 22 ls (.int j :: .ref t :: st) σ = alK (σ.1 t) 0 j (fun v => ev 98 23 ls (.int v :: st) σ) := e_iald k98_22
theorem k98_23 : cod 98 23 = some (.aload_n 0, 1, 0, 0, 0, 0) := rfl
theorem e98_23 (x : Nat) (ls : mL) (st : List Value) (σ : mS) : ev 98 23 (some (.ref x) :: ls) st σ = ev 98 24 (some (.ref x) :: ls) (.ref x :: st) σ := e_aload1 k98_23 rfl
theorem k98_24 : cod 98 24 = some (.iload_n 2, 1, 0, 0, 0, 0) := rfl
theorem e98_24 (a0 a1 : Option Value) (x : Int32) (ls : mL) (st : List Value) (σ : mS) : ev 98 24 (a0 :: a1 :: some (.int x) :: ls) st σ = ev 98 25 (a0 :: a1 :: some (.int x) :: ls) (.int x :: st) σ := e_iload1 k98_24 rfl
theorem k98_25 : cod 98 25 = some (.invokevirtual 284, 3, 99, 1, 0, 7) := rfl
theorem e98_25 (t : Nat) (x0 : Int32) (ls : mL) (st : List Value) (σ : mS) (hm : mCat st ≤ 8) : ev 98 25 ls (.int x0 :: .ref t :: st) σ = isC (σ.1 t) 7 ((evM 99 [.ref t, .int x0] σ).bind fun z => ev 98 28 ls (z.1.toList ++ st) z.2) := e_callVK k98_25 (by decide) rfl ⟨hm, Nat.le_of_ble_eq_true rfl⟩
theorem k98_28 : cod 98 28 = some (.isub, 1, 0, 0, 0, 0) := rfl
theorem e98_28 (x y : Int32) (ls : mL) (st : List Value) (σ : mS) : ev 98 28 ls (.int y :: .int x :: st) σ = ev 98 29 ls (.int (x - y) :: st) σ := e_isub k98_28
theorem k98_29 : cod 98 29 = some (.invokestatic 296, 3, 0, 0, 6, 1) := rfl
theorem e98_29 (x : Int32) (ls : mL) (st : List Value) (σ : mS) (hz : mCat st ≤ 8) : ev 98 29 ls (.int x :: st) σ = ev 98 32 ls (.int (if 0 ≤ x then x else 0 - x) :: st) σ := e_abs k98_29 hz
theorem k98_32 : cod 98 32 = some (.istore 6, 2, 0, 0, 0, 0) := rfl
theorem e98_32i (a0 a1 a2 a3 a4 : Option Value) (y : Int32) (o : Option Value) (x : Int32) (ls : mL) (st : List Value) (σ : mS) : ev 98 32 (a0 :: a1 :: a2 :: a3 :: a4 :: some (.int y) :: o :: ls) (.int x :: st) σ = ev 98 34 (a0 :: a1 :: a2 :: a3 :: a4 :: some (.int y) :: some (.int x) :: ls) st σ := e_istore0 k98_32 (Nat.le_add_left 7 ls.length)
theorem e98_32n (a0 a1 a2 a3 a4 : Option Value) (o : Option Value) (x : Int32) (ls : mL) (st : List Value) (σ : mS) : ev 98 32 (a0 :: a1 :: a2 :: a3 :: a4 :: none :: o :: ls) (.int x :: st) σ = ev 98 34 (a0 :: a1 :: a2 :: a3 :: a4 :: none :: some (.int x) :: ls) st σ := e_istore0 k98_32 (Nat.le_add_left 7 ls.length)
theorem e98_32r (a0 a1 a2 a3 a4 : Option Value) (y : Nat) (o : Option Value) (x : Int32) (ls : mL) (st : List Value) (σ : mS) : ev 98 32 (a0 :: a1 :: a2 :: a3 :: a4 :: some (.ref y) :: o :: ls) (.int x :: st) σ = ev 98 34 (a0 :: a1 :: a2 :: a3 :: a4 :: some (.ref y) :: some (.int x) :: ls) st σ := e_istore0 k98_32 (Nat.le_add_left 7 ls.length)
theorem k98_34 : cod 98 34 = some (.aload_n 0, 1, 0, 0, 0, 0) := rfl
theorem e98_34 (x : Nat) (ls : mL) (st : List Value) (σ : mS) : ev 98 34 (some (.ref x) :: ls) st σ = ev 98 35 (some (.ref x) :: ls) (.ref x :: st) σ := e_aload1 k98_34 rfl
theorem k98_35 : cod 98 35 = some (.getfield 26, 3, 7, 2, 0, 3) := rfl
theorem e98_35 (t : Nat) (ls : mL) (st : List Value) (σ : mS) : ev 98 35 ls (.ref t :: st) σ = gfK (σ.1 t) 7 2 (fun v => ev 98 38 ls (v :: st) σ) := e_getf k98_35
theorem k98_38 : cod 98 38 = some (.iload_n 1, 1, 0, 0, 0, 0) := rfl
theorem e98_38 (a0 : Option Value) (x : Int32) (ls : mL) (st : List Value) (σ : mS) : ev 98 38 (a0 :: some (.int x) :: ls) st σ = ev 98 39 (a0 :: some (.int x) :: ls) (.int x :: st) σ := e_iload1 k98_38 rfl
theorem k98_39 : cod 98 39 = some (.iload 5, 2, 0, 0, 0, 0) := rfl
theorem e98_39 (a0 a1 a2 a3 a4 : Option Value) (x : Int32) (ls : mL) (st : List Value) (σ : mS) : ev 98 39 (a0 :: a1 :: a2 :: a3 :: a4 :: some (.int x) :: ls) st σ = ev 98 41 (a0 :: a1 :: a2 :: a3 :: a4 :: some (.int x) :: ls) (.int x :: st) σ := e_iload0 k98_39 rfl
theorem k98_41 : cod 98 41 = some (.invokevirtual 257, 3, 78, 2, 0, 6) := rfl
theorem e98_41 (t : Nat) (x0 : Int32) (x1 : Int32) (ls : mL) (st : List Value) (σ : mS) (hm : mCat st ≤ 8) : ev 98 41 ls (.int x1 :: .int x0 :: .ref t :: st) σ = isC (σ.1 t) 6 ((evM 78 [.ref t, .int x0, .int x1] σ).bind fun z => ev 98 44 ls (z.1.toList ++ st) z.2) := e_callVK k98_41 (by decide) rfl ⟨hm, Nat.le_of_ble_eq_true rfl⟩
theorem k98_44 : cod 98 44 = some (.ifCond .eq (23), 3, 67, 0, 0, 0) := rfl
theorem e98_44 (x : Int32) (ls : mL) (st : List Value) (σ : mS) : ev 98 44 ls (.int x :: st) σ = if x = 0 then ev 98 67 ls st σ else ev 98 47 ls st σ := e_if_eq k98_44
theorem k98_47 : cod 98 47 = some (.iload_n 3, 1, 0, 0, 0, 0) := rfl
theorem e98_47 (a0 a1 a2 : Option Value) (x : Int32) (ls : mL) (st : List Value) (σ : mS) : ev 98 47 (a0 :: a1 :: a2 :: some (.int x) :: ls) st σ = ev 98 48 (a0 :: a1 :: a2 :: some (.int x) :: ls) (.int x :: st) σ := e_iload1 k98_47 rfl
theorem k98_48 : cod 98 48 = some (.bipush (-9), 2, 0, 0, 0, 0) := rfl
theorem e98_48 (ls : mL) (st : List Value) (σ : mS) : ev 98 48 ls st σ = ev 98 50 ls (.int (-9) :: st) σ := e_bipush (-9) k98_48 (by decide)
theorem k98_50 : cod 98 50 = some (.if_icmp .eq (10), 3, 60, 0, 0, 0) := rfl
theorem e98_50 (x y : Int32) (ls : mL) (st : List Value) (σ : mS) : ev 98 50 ls (.int y :: .int x :: st) σ = if x = y then ev 98 60 ls st σ else ev 98 53 ls st σ := e_ic_eq k98_50
theorem k98_53 : cod 98 53 = some (.iload 6, 2, 0, 0, 0, 0) := rfl
theorem e98_53 (a0 a1 a2 a3 a4 a5 : Option Value) (x : Int32) (ls : mL) (st : List Value) (σ : mS) : ev 98 53 (a0 :: a1 :: a2 :: a3 :: a4 :: a5 :: some (.int x) :: ls) st σ = ev 98 55 (a0 :: a1 :: a2 :: a3 :: a4 :: a5 :: some (.int x) :: ls) (.int x :: st) σ := e_iload0 k98_53 rfl
theorem k98_55 : cod 98 55 = some (.iload 4, 2, 0, 0, 0, 0) := rfl
theorem e98_55 (a0 a1 a2 a3 : Option Value) (x : Int32) (ls : mL) (st : List Value) (σ : mS) : ev 98 55 (a0 :: a1 :: a2 :: a3 :: some (.int x) :: ls) st σ = ev 98 57 (a0 :: a1 :: a2 :: a3 :: some (.int x) :: ls) (.int x :: st) σ := e_iload0 k98_55 rfl
theorem k98_57 : cod 98 57 = some (.if_icmp .ge (10), 3, 67, 0, 0, 0) := rfl
theorem e98_57 (x y : Int32) (ls : mL) (st : List Value) (σ : mS) : ev 98 57 ls (.int y :: .int x :: st) σ = if y ≤ x then ev 98 67 ls st σ else ev 98 60 ls st σ := e_ic_ge k98_57
theorem k98_60 : cod 98 60 = some (.iload 5, 2, 0, 0, 0, 0) := rfl
theorem e98_60 (a0 a1 a2 a3 a4 : Option Value) (x : Int32) (ls : mL) (st : List Value) (σ : mS) : ev 98 60 (a0 :: a1 :: a2 :: a3 :: a4 :: some (.int x) :: ls) st σ = ev 98 62 (a0 :: a1 :: a2 :: a3 :: a4 :: some (.int x) :: ls) (.int x :: st) σ := e_iload0 k98_60 rfl
theorem k98_62 : cod 98 62 = some (.istore_n 3, 1, 0, 0, 0, 0) := rfl
theorem e98_62i (a0 a1 : Option Value) (y : Int32) (o : Option Value) (x : Int32) (ls : mL) (st : List Value) (σ : mS) : ev 98 62 (a0 :: a1 :: some (.int y) :: o :: ls) (.int x :: st) σ = ev 98 63 (a0 :: a1 :: some (.int y) :: some (.int x) :: ls) st σ := e_istore1 k98_62 (Nat.le_add_left 4 ls.length)
theorem e98_62n (a0 a1 : Option Value) (o : Option Value) (x : Int32) (ls : mL) (st : List Value) (σ : mS) : ev 98 62 (a0 :: a1 :: none :: o :: ls) (.int x :: st) σ = ev 98 63 (a0 :: a1 :: none :: some (.int x) :: ls) st σ := e_istore1 k98_62 (Nat.le_add_left 4 ls.length)
theorem e98_62r (a0 a1 : Option Value) (y : Nat) (o : Option Value) (x : Int32) (ls : mL) (st : List Value) (σ : mS) : ev 98 62 (a0 :: a1 :: some (.ref y) :: o :: ls) (.int x :: st) σ = ev 98 63 (a0 :: a1 :: some (.ref y) :: some (.int x) :: ls) st σ := e_istore1 k98_62 (Nat.le_add_left 4 ls.length)
theorem k98_63 : cod 98 63 = some (.iload 6, 2, 0, 0, 0, 0) := rfl
theorem e98_63 (a0 a1 a2 a3 a4 a5 : Option Value) (x : Int32) (ls : mL) (st : List Value) (σ : mS) : ev 98 63 (a0 :: a1 :: a2 :: a3 :: a4 :: a5 :: some (.int x) :: ls) st σ = ev 98 65 (a0 :: a1 :: a2 :: a3 :: a4 :: a5 :: some (.int x) :: ls) (.int x :: st) σ := e_iload0 k98_63 rfl
theorem k98_65 : cod 98 65 = some (.istore 4, 2, 0, 0, 0, 0) := rfl
theorem e98_65i (a0 a1 a2 : Option Value) (y : Int32) (o : Option Value) (x : Int32) (ls : mL) (st : List Value) (σ : mS) : ev 98 65 (a0 :: a1 :: a2 :: some (.int y) :: o :: ls) (.int x :: st) σ = ev 98 67 (a0 :: a1 :: a2 :: some (.int y) :: some (.int x) :: ls) st σ := e_istore0 k98_65 (Nat.le_add_left 5 ls.length)
theorem e98_65n (a0 a1 a2 : Option Value) (o : Option Value) (x : Int32) (ls : mL) (st : List Value) (σ : mS) : ev 98 65 (a0 :: a1 :: a2 :: none :: o :: ls) (.int x :: st) σ = ev 98 67 (a0 :: a1 :: a2 :: none :: some (.int x) :: ls) st σ := e_istore0 k98_65 (Nat.le_add_left 5 ls.length)
theorem e98_65r (a0 a1 a2 : Option Value) (y : Nat) (o : Option Value) (x : Int32) (ls : mL) (st : List Value) (σ : mS) : ev 98 65 (a0 :: a1 :: a2 :: some (.ref y) :: o :: ls) (.int x :: st) σ = ev 98 67 (a0 :: a1 :: a2 :: some (.ref y) :: some (.int x) :: ls) st σ := e_istore0 k98_65 (Nat.le_add_left 5 ls.length)
theorem k98_67 : cod 98 67 = some (.iinc 5 (1), 3, 0, 0, 0, 0) := rfl
theorem e98_67i (a0 a1 a2 a3 : Option Value) (y : Int32) (x : Int32) (ls : mL) (st : List Value) (σ : mS) : ev 98 67 (a0 :: a1 :: a2 :: a3 :: some (.int y) :: some (.int x) :: ls) st σ = ev 98 70 (a0 :: a1 :: a2 :: a3 :: some (.int y) :: some (.int (x + 1)) :: ls) st σ := e_iinc 1 k98_67 (by decide) rfl
theorem e98_67n (a0 a1 a2 a3 : Option Value) (x : Int32) (ls : mL) (st : List Value) (σ : mS) : ev 98 67 (a0 :: a1 :: a2 :: a3 :: none :: some (.int x) :: ls) st σ = ev 98 70 (a0 :: a1 :: a2 :: a3 :: none :: some (.int (x + 1)) :: ls) st σ := e_iinc 1 k98_67 (by decide) rfl
theorem e98_67r (a0 a1 a2 a3 : Option Value) (y : Nat) (x : Int32) (ls : mL) (st : List Value) (σ : mS) : ev 98 67 (a0 :: a1 :: a2 :: a3 :: some (.ref y) :: some (.int x) :: ls) st σ = ev 98 70 (a0 :: a1 :: a2 :: a3 :: some (.ref y) :: some (.int (x + 1)) :: ls) st σ := e_iinc 1 k98_67 (by decide) rfl
theorem k98_70 : cod 98 70 = some (.goto (-61), 3, 9, 0, 0, 0) := rfl
theorem e98_70 (ls : mL) (st : List Value) (σ : mS) : ev 98 70 ls st σ = ev 98 9 ls st σ := e_goto k98_70
theorem k98_73 : cod 98 73 = some (.iload_n 3, 1, 0, 0, 0, 0) := rfl
theorem e98_73 (a0 a1 a2 : Option Value) (x : Int32) (ls : mL) (st : List Value) (σ : mS) : ev 98 73 (a0 :: a1 :: a2 :: some (.int x) :: ls) st σ = ev 98 74 (a0 :: a1 :: a2 :: some (.int x) :: ls) (.int x :: st) σ := e_iload1 k98_73 rfl
theorem k98_74 : cod 98 74 = some (.ireturn, 1, 0, 0, 0, 0) := rfl
theorem e98_74 (x : Int32) (ls : mL) (σ : mS) : ev 98 74 ls [.int x] σ = some (some (.int x), σ) := e_iret k98_74 rfl
theorem m98 (t : Nat) (x0 : Int32) (x1 : Int32) (σ : mS) : evM 98 [.ref t, .int x0, .int x1] σ = ev 98 0 [some (.ref t), some (.int x0), some (.int x1), none, none, none, none] [] σ := rfl
theorem k99_0 : cod 99 0 = some (.iload_n 1, 1, 0, 0, 0, 0) := rfl
theorem e99_0 (a0 : Option Value) (x : Int32) (ls : mL) (st : List Value) (σ : mS) : ev 99 0 (a0 :: some (.int x) :: ls) st σ = ev 99 1 (a0 :: some (.int x) :: ls) (.int x :: st) σ := e_iload1 k99_0 rfl
theorem k99_1 : cod 99 1 = some (.invokestatic 112, 3, 92, 1, 0, 0) := rfl
theorem e99_1 (x0 : Int32) (ls : mL) (st : List Value) (σ : mS) (hm : mCat st ≤ 8) : ev 99 1 ls (.int x0 :: st) σ = (evM 92 [.int x0] σ).bind fun z => ev 99 4 ls (z.1.toList ++ st) z.2 := e_callS k99_1 (by decide) rfl ⟨hm, Nat.le_of_ble_eq_true rfl⟩
theorem k99_4 : cod 99 4 = some (.ifCond .eq (12), 3, 16, 0, 0, 0) := rfl
theorem e99_4 (x : Int32) (ls : mL) (st : List Value) (σ : mS) : ev 99 4 ls (.int x :: st) σ = if x = 0 then ev 99 16 ls st σ else ev 99 7 ls st σ := e_if_eq k99_4
theorem k99_7 : cod 99 7 = some (.aload_n 0, 1, 0, 0, 0, 0) := rfl
theorem e99_7 (x : Nat) (ls : mL) (st : List Value) (σ : mS) : ev 99 7 (some (.ref x) :: ls) st σ = ev 99 8 (some (.ref x) :: ls) (.ref x :: st) σ := e_aload1 k99_7 rfl
theorem k99_8 : cod 99 8 = some (.getfield 46, 3, 7, 7, 0, 3) := rfl
theorem e99_8 (t : Nat) (ls : mL) (st : List Value) (σ : mS) : ev 99 8 ls (.ref t :: st) σ = gfK (σ.1 t) 7 7 (fun v => ev 99 11 ls (v :: st) σ) := e_getf k99_8
theorem k99_11 : cod 99 11 = some (.iload_n 1, 1, 0, 0, 0, 0) := rfl
theorem e99_11 (a0 : Option Value) (x : Int32) (ls : mL) (st : List Value) (σ : mS) : ev 99 11 (a0 :: some (.int x) :: ls) st σ = ev 99 12 (a0 :: some (.int x) :: ls) (.int x :: st) σ := e_iload1 k99_11 rfl
theorem k99_12 : cod 99 12 = some (.iaload, 1, 0, 0, 0, 0) := rfl
theorem e99_12 (j : Int32) (t : Nat) (ls : mL) (st : List Value) (σ : mS) : ev 99 12 ls (.int j :: .ref t :: st) σ = alK (σ.1 t) 0 j (fun v => ev 99 13 ls (.int v :: st) σ) := e_iald k99_12
theorem k99_13 : cod 99 13 = some (.goto (4), 3, 17, 0, 0, 0) := rfl
theorem e99_13 (ls : mL) (st : List Value) (σ : mS) : ev 99 13 ls st σ = ev 99 17 ls st σ := e_goto k99_13
theorem k99_16 : cod 99 16 = some (.iconst 0, 1, 0, 0, 0, 0) := rfl
theorem e99_16 (ls : mL) (st : List Value) (σ : mS) : ev 99 16 ls st σ = ev 99 17 ls (.int 0 :: st) σ := e_iconst 0 k99_16 (by decide)
theorem k99_17 : cod 99 17 = some (.ireturn, 1, 0, 0, 0, 0) := rfl
theorem e99_17 (x : Int32) (ls : mL) (σ : mS) : ev 99 17 ls [.int x] σ = some (some (.int x), σ) := e_iret k99_17 rfl
theorem m99 (t : Nat) (x0 : Int32) (σ : mS) : evM 99 [.ref t, .int x0] σ = ev 99 0 [some (.ref t), some (.int x0)] [] σ := rfl
theorem k100_0 : cod 100 0 = some (.iload_n 1, 1, 0, 0, 0, 0) := rfl
theorem e100_0 (a0 : Option Value) (x : Int32) (ls : mL) (st : List Value) (σ : mS) : ev 100 0 (a0 :: some (.int x) :: ls) st σ = ev 100 1 (a0 :: some (.int x) :: ls) (.int x :: st) σ := e_iload1 k100_0 rfl
theorem k100_1 : cod 100 1 = some (.invokestatic 112, 3, 92, 1, 0, 0) := rfl
theorem e100_1 (x0 : Int32) (ls : mL) (st : List Value) (σ : mS) (hm : mCat st ≤ 8) : ev 100 1 ls (.int x0 :: st) σ = (evM 92 [.int x0] σ).bind fun z => ev 100 4 ls (z.1.toList ++ st) z.2 := e_callS k100_1 (by decide) rfl ⟨hm, Nat.le_of_ble_eq_true rfl⟩
theorem k100_4 : cod 100 4 = some (.ifCond .eq (12), 3, 16, 0, 0, 0) := rfl
theorem e100_4 (x : Int32) (ls : mL) (st : List Value) (σ : mS) : ev 100 4 ls (.int x :: st) σ = if x = 0 then ev 100 16 ls st σ else ev 100 7 ls st σ := e_if_eq k100_4
theorem k100_7 : cod 100 7 = some (.iload_n 2, 1, 0, 0, 0, 0) := rfl
theorem e100_7 (a0 a1 : Option Value) (x : Int32) (ls : mL) (st : List Value) (σ : mS) : ev 100 7 (a0 :: a1 :: some (.int x) :: ls) st σ = ev 100 8 (a0 :: a1 :: some (.int x) :: ls) (.int x :: st) σ := e_iload1 k100_7 rfl
theorem k100_8 : cod 100 8 = some (.iconst 0, 1, 0, 0, 0, 0) := rfl
theorem e100_8 (ls : mL) (st : List Value) (σ : mS) : ev 100 8 ls st σ = ev 100 9 ls (.int 0 :: st) σ := e_iconst 0 k100_8 (by decide)
theorem k100_9 : cod 100 9 = some (.iconst 1, 1, 0, 0, 0, 0) := rfl
theorem e100_9 (ls : mL) (st : List Value) (σ : mS) : ev 100 9 ls st σ = ev 100 10 ls (.int 1 :: st) σ := e_iconst 1 k100_9 (by decide)
theorem k100_10 : cod 100 10 = some (.invokestatic 78, 3, 87, 3, 0, 0) := rfl
theorem e100_10 (x0 : Int32) (x1 : Int32) (x2 : Int32) (ls : mL) (st : List Value) (σ : mS) (hm : mCat st ≤ 8) : ev 100 10 ls (.int x2 :: .int x1 :: .int x0 :: st) σ = (evM 87 [.int x0, .int x1, .int x2] σ).bind fun z => ev 100 13 ls (z.1.toList ++ st) z.2 := e_callS k100_10 (by decide) rfl ⟨hm, Nat.le_of_ble_eq_true rfl⟩
theorem k100_13 : cod 100 13 = some (.ifCond .ne (5), 3, 18, 0, 0, 0) := rfl
theorem e100_13 (x : Int32) (ls : mL) (st : List Value) (σ : mS) : ev 100 13 ls (.int x :: st) σ = if x = 0 then ev 100 16 ls st σ else ev 100 18 ls st σ := e_if_ne k100_13
theorem k100_16 : cod 100 16 = some (.iconst (-1), 1, 0, 0, 0, 0) := rfl
theorem e100_16 (ls : mL) (st : List Value) (σ : mS) : ev 100 16 ls st σ = ev 100 17 ls (.int (-1) :: st) σ := e_iconst (-1) k100_16 (by decide)
theorem k100_17 : cod 100 17 = some (.ireturn, 1, 0, 0, 0, 0) := rfl
theorem e100_17 (x : Int32) (ls : mL) (σ : mS) : ev 100 17 ls [.int x] σ = some (some (.int x), σ) := e_iret k100_17 rfl
theorem k100_18 : cod 100 18 = some (.iload_n 3, 1, 0, 0, 0, 0) := rfl
theorem e100_18 (a0 a1 a2 : Option Value) (x : Int32) (ls : mL) (st : List Value) (σ : mS) : ev 100 18 (a0 :: a1 :: a2 :: some (.int x) :: ls) st σ = ev 100 19 (a0 :: a1 :: a2 :: some (.int x) :: ls) (.int x :: st) σ := e_iload1 k100_18 rfl
theorem k100_19 : cod 100 19 = some (.iconst 0, 1, 0, 0, 0, 0) := rfl
theorem e100_19 (ls : mL) (st : List Value) (σ : mS) : ev 100 19 ls st σ = ev 100 20 ls (.int 0 :: st) σ := e_iconst 0 k100_19 (by decide)
theorem k100_20 : cod 100 20 = some (.iload_n 2, 1, 0, 0, 0, 0) := rfl
theorem e100_20 (a0 a1 : Option Value) (x : Int32) (ls : mL) (st : List Value) (σ : mS) : ev 100 20 (a0 :: a1 :: some (.int x) :: ls) st σ = ev 100 21 (a0 :: a1 :: some (.int x) :: ls) (.int x :: st) σ := e_iload1 k100_20 rfl
theorem k100_21 : cod 100 21 = some (.ifCond .ne (8), 3, 29, 0, 0, 0) := rfl
theorem e100_21 (x : Int32) (ls : mL) (st : List Value) (σ : mS) : ev 100 21 ls (.int x :: st) σ = if x = 0 then ev 100 24 ls st σ else ev 100 29 ls st σ := e_if_ne k100_21
theorem k100_24 : cod 100 24 = some (.bipush (20), 2, 0, 0, 0, 0) := rfl
theorem e100_24 (ls : mL) (st : List Value) (σ : mS) : ev 100 24 ls st σ = ev 100 26 ls (.int 20 :: st) σ := e_bipush 20 k100_24 (by decide)
theorem k100_26 : cod 100 26 = some (.goto (4), 3, 30, 0, 0, 0) := rfl
theorem e100_26 (ls : mL) (st : List Value) (σ : mS) : ev 100 26 ls st σ = ev 100 30 ls st σ := e_goto k100_26
theorem k100_29 : cod 100 29 = some (.iconst 5, 1, 0, 0, 0, 0) := rfl
theorem e100_29 (ls : mL) (st : List Value) (σ : mS) : ev 100 29 ls st σ = ev 100 30 ls (.int 5 :: st) σ := e_iconst 5 k100_29 (by decide)
theorem k100_30 : cod 100 30 = some (.invokestatic 78, 3, 87, 3, 0, 0) := rfl
theorem e100_30 (x0 : Int32) (x1 : Int32) (x2 : Int32) (ls : mL) (st : List Value) (σ : mS) (hm : mCat st ≤ 8) : ev 100 30 ls (.int x2 :: .int x1 :: .int x0 :: st) σ = (evM 87 [.int x0, .int x1, .int x2] σ).bind fun z => ev 100 33 ls (z.1.toList ++ st) z.2 := e_callS k100_30 (by decide) rfl ⟨hm, Nat.le_of_ble_eq_true rfl⟩
theorem k100_33 : cod 100 33 = some (.ifCond .ne (5), 3, 38, 0, 0, 0) := rfl
theorem e100_33 (x : Int32) (ls : mL) (st : List Value) (σ : mS) : ev 100 33 ls (.int x :: st) σ = if x = 0 then ev 100 36 ls st σ else ev 100 38 ls st σ := e_if_ne k100_33
theorem k100_36 : cod 100 36 = some (.iconst (-1), 1, 0, 0, 0, 0) := rfl
theorem e100_36 (ls : mL) (st : List Value) (σ : mS) : ev 100 36 ls st σ = ev 100 37 ls (.int (-1) :: st) σ := e_iconst (-1) k100_36 (by decide)
theorem k100_37 : cod 100 37 = some (.ireturn, 1, 0, 0, 0, 0) := rfl
theorem e100_37 (x : Int32) (ls : mL) (σ : mS) : ev 100 37 ls [.int x] σ = some (some (.int x), σ) := e_iret k100_37 rfl
theorem k100_38 : cod 100 38 = some (.iload_n 2, 1, 0, 0, 0, 0) := rfl
theorem e100_38 (a0 a1 : Option Value) (x : Int32) (ls : mL) (st : List Value) (σ : mS) : ev 100 38 (a0 :: a1 :: some (.int x) :: ls) st σ = ev 100 39 (a0 :: a1 :: some (.int x) :: ls) (.int x :: st) σ := e_iload1 k100_38 rfl
theorem k100_39 : cod 100 39 = some (.ifCond .ne (10), 3, 49, 0, 0, 0) := rfl
theorem e100_39 (x : Int32) (ls : mL) (st : List Value) (σ : mS) : ev 100 39 ls (.int x :: st) σ = if x = 0 then ev 100 42 ls st σ else ev 100 49 ls st σ := e_if_ne k100_39
theorem k100_42 : cod 100 42 = some (.aload_n 0, 1, 0, 0, 0, 0) := rfl
theorem e100_42 (x : Nat) (ls : mL) (st : List Value) (σ : mS) : ev 100 42 (some (.ref x) :: ls) st σ = ev 100 43 (some (.ref x) :: ls) (.ref x :: st) σ := e_aload1 k100_42 rfl
theorem k100_43 : cod 100 43 = some (.getfield 46, 3, 7, 7, 0, 3) := rfl
theorem e100_43 (t : Nat) (ls : mL) (st : List Value) (σ : mS) : ev 100 43 ls (.ref t :: st) σ = gfK (σ.1 t) 7 7 (fun v => ev 100 46 ls (v :: st) σ) := e_getf k100_43
theorem k100_46 : cod 100 46 = some (.goto (7), 3, 53, 0, 0, 0) := rfl
theorem e100_46 (ls : mL) (st : List Value) (σ : mS) : ev 100 46 ls st σ = ev 100 53 ls st σ := e_goto k100_46
theorem k100_49 : cod 100 49 = some (.aload_n 0, 1, 0, 0, 0, 0) := rfl
theorem e100_49 (x : Nat) (ls : mL) (st : List Value) (σ : mS) : ev 100 49 (some (.ref x) :: ls) st σ = ev 100 50 (some (.ref x) :: ls) (.ref x :: st) σ := e_aload1 k100_49 rfl
theorem k100_50 : cod 100 50 = some (.getfield 50, 3, 7, 8, 0, 3) := rfl
theorem e100_50 (t : Nat) (ls : mL) (st : List Value) (σ : mS) : ev 100 50 ls (.ref t :: st) σ = gfK (σ.1 t) 7 8 (fun v => ev 100 53 ls (v :: st) σ) := e_getf k100_50
theorem k100_53 : cod 100 53 = some (.astore 4, 2, 0, 0, 0, 0) := rfl
theorem e100_53i (a0 a1 a2 : Option Value) (y : Int32) (o : Option Value) (x : Nat) (ls : mL) (st : List Value) (σ : mS) : ev 100 53 (a0 :: a1 :: a2 :: some (.int y) :: o :: ls) (.ref x :: st) σ = ev 100 55 (a0 :: a1 :: a2 :: some (.int y) :: some (.ref x) :: ls) st σ := e_astore0 k100_53 (Nat.le_add_left 5 ls.length)
theorem e100_53n (a0 a1 a2 : Option Value) (o : Option Value) (x : Nat) (ls : mL) (st : List Value) (σ : mS) : ev 100 53 (a0 :: a1 :: a2 :: none :: o :: ls) (.ref x :: st) σ = ev 100 55 (a0 :: a1 :: a2 :: none :: some (.ref x) :: ls) st σ := e_astore0 k100_53 (Nat.le_add_left 5 ls.length)
theorem e100_53r (a0 a1 a2 : Option Value) (y : Nat) (o : Option Value) (x : Nat) (ls : mL) (st : List Value) (σ : mS) : ev 100 53 (a0 :: a1 :: a2 :: some (.ref y) :: o :: ls) (.ref x :: st) σ = ev 100 55 (a0 :: a1 :: a2 :: some (.ref y) :: some (.ref x) :: ls) st σ := e_astore0 k100_53 (Nat.le_add_left 5 ls.length)
theorem k100_55 : cod 100 55 = some (.aload 4, 2, 0, 0, 0, 0) := rfl
theorem e100_55 (a0 a1 a2 a3 : Option Value) (x : Nat) (ls : mL) (st : List Value) (σ : mS) : ev 100 55 (a0 :: a1 :: a2 :: a3 :: some (.ref x) :: ls) st σ = ev 100 57 (a0 :: a1 :: a2 :: a3 :: some (.ref x) :: ls) (.ref x :: st) σ := e_aload0 k100_55 rfl
theorem k100_57 : cod 100 57 = some (.iload_n 1, 1, 0, 0, 0, 0) := rfl
theorem e100_57 (a0 : Option Value) (x : Int32) (ls : mL) (st : List Value) (σ : mS) : ev 100 57 (a0 :: some (.int x) :: ls) st σ = ev 100 58 (a0 :: some (.int x) :: ls) (.int x :: st) σ := e_iload1 k100_57 rfl
theorem k100_58 : cod 100 58 = some (.iaload, 1, 0, 0, 0, 0) := rfl
theorem e100_58 (j : Int32) (t : Nat) (ls : mL) (st : List Value) (σ : mS) : ev 100 58 ls (.int j :: .ref t :: st) σ = alK (σ.1 t) 0 j (fun v => ev 100 59 ls (.int v :: st) σ) := e_iald k100_58
theorem k100_59 : cod 100 59 = some (.istore 5, 2, 0, 0, 0, 0) := rfl
theorem e100_59i (a0 a1 a2 a3 : Option Value) (y : Int32) (o : Option Value) (x : Int32) (ls : mL) (st : List Value) (σ : mS) : ev 100 59 (a0 :: a1 :: a2 :: a3 :: some (.int y) :: o :: ls) (.int x :: st) σ = ev 100 61 (a0 :: a1 :: a2 :: a3 :: some (.int y) :: some (.int x) :: ls) st σ := e_istore0 k100_59 (Nat.le_add_left 6 ls.length)
theorem e100_59n (a0 a1 a2 a3 : Option Value) (o : Option Value) (x : Int32) (ls : mL) (st : List Value) (σ : mS) : ev 100 59 (a0 :: a1 :: a2 :: a3 :: none :: o :: ls) (.int x :: st) σ = ev 100 61 (a0 :: a1 :: a2 :: a3 :: none :: some (.int x) :: ls) st σ := e_istore0 k100_59 (Nat.le_add_left 6 ls.length)
theorem e100_59r (a0 a1 a2 a3 : Option Value) (y : Nat) (o : Option Value) (x : Int32) (ls : mL) (st : List Value) (σ : mS) : ev 100 59 (a0 :: a1 :: a2 :: a3 :: some (.ref y) :: o :: ls) (.int x :: st) σ = ev 100 61 (a0 :: a1 :: a2 :: a3 :: some (.ref y) :: some (.int x) :: ls) st σ := e_istore0 k100_59 (Nat.le_add_left 6 ls.length)
theorem k100_61 : cod 100 61 = some (.aload 4, 2, 0, 0, 0, 0) := rfl
theorem e100_61 (a0 a1 a2 a3 : Option Value) (x : Nat) (ls : mL) (st : List Value) (σ : mS) : ev 100 61 (a0 :: a1 :: a2 :: a3 :: some (.ref x) :: ls) st σ = ev 100 63 (a0 :: a1 :: a2 :: a3 :: some (.ref x) :: ls) (.ref x :: st) σ := e_aload0 k100_61 rfl
theorem k100_63 : cod 100 63 = some (.iload_n 1, 1, 0, 0, 0, 0) := rfl
theorem e100_63 (a0 : Option Value) (x : Int32) (ls : mL) (st : List Value) (σ : mS) : ev 100 63 (a0 :: some (.int x) :: ls) st σ = ev 100 64 (a0 :: some (.int x) :: ls) (.int x :: st) σ := e_iload1 k100_63 rfl
theorem k100_64 : cod 100 64 = some (.iload_n 3, 1, 0, 0, 0, 0) := rfl
theorem e100_64 (a0 a1 a2 : Option Value) (x : Int32) (ls : mL) (st : List Value) (σ : mS) : ev 100 64 (a0 :: a1 :: a2 :: some (.int x) :: ls) st σ = ev 100 65 (a0 :: a1 :: a2 :: some (.int x) :: ls) (.int x :: st) σ := e_iload1 k100_64 rfl
theorem k100_65 : cod 100 65 = some (.iastore, 1, 0, 0, 0, 0) := rfl
theorem e100_65 (j x : Int32) (t : Nat) (ls : mL) (st : List Value) (σ : mS) : ev 100 65 ls (.int x :: .int j :: .ref t :: st) σ = asK (σ.1 t) 0 j x (fun e => ev 100 66 ls st (mset σ t e)) := e_iast k100_65
theorem k100_66 : cod 100 66 = some (.iload 5, 2, 0, 0, 0, 0) := rfl
theorem e100_66 (a0 a1 a2 a3 a4 : Option Value) (x : Int32) (ls : mL) (st : List Value) (σ : mS) : ev 100 66 (a0 :: a1 :: a2 :: a3 :: a4 :: some (.int x) :: ls) st σ = ev 100 68 (a0 :: a1 :: a2 :: a3 :: a4 :: some (.int x) :: ls) (.int x :: st) σ := e_iload0 k100_66 rfl
theorem k100_68 : cod 100 68 = some (.ireturn, 1, 0, 0, 0, 0) := rfl
theorem e100_68 (x : Int32) (ls : mL) (σ : mS) : ev 100 68 ls [.int x] σ = some (some (.int x), σ) := e_iret k100_68 rfl
theorem m100 (t : Nat) (x0 : Int32) (x1 : Int32) (x2 : Int32) (σ : mS) : evM 100 [.ref t, .int x0, .int x1, .int x2] σ = ev 100 0 [some (.ref t), some (.int x0), some (.int x1), some (.int x2), none, none] [] σ := rfl
theorem k101_0 : cod 101 0 = some (.iload_n 1, 1, 0, 0, 0, 0) := rfl
theorem e101_0 (a0 : Option Value) (x : Int32) (ls : mL) (st : List Value) (σ : mS) : ev 101 0 (a0 :: some (.int x) :: ls) st σ = ev 101 1 (a0 :: some (.int x) :: ls) (.int x :: st) σ := e_iload1 k101_0 rfl
theorem k101_1 : cod 101 1 = some (.iconst 0, 1, 0, 0, 0, 0) := rfl
theorem e101_1 (ls : mL) (st : List Value) (σ : mS) : ev 101 1 ls st σ = ev 101 2 ls (.int 0 :: st) σ := e_iconst 0 k101_1 (by decide)
theorem k101_2 : cod 101 2 = some (.iconst 5, 1, 0, 0, 0, 0) := rfl
theorem e101_2 (ls : mL) (st : List Value) (σ : mS) : ev 101 2 ls st σ = ev 101 3 ls (.int 5 :: st) σ := e_iconst 5 k101_2 (by decide)
theorem k101_3 : cod 101 3 = some (.invokestatic 78, 3, 87, 3, 0, 0) := rfl
theorem e101_3 (x0 : Int32) (x1 : Int32) (x2 : Int32) (ls : mL) (st : List Value) (σ : mS) (hm : mCat st ≤ 8) : ev 101 3 ls (.int x2 :: .int x1 :: .int x0 :: st) σ = (evM 87 [.int x0, .int x1, .int x2] σ).bind fun z => ev 101 6 ls (z.1.toList ++ st) z.2 := e_callS k101_3 (by decide) rfl ⟨hm, Nat.le_of_ble_eq_true rfl⟩
theorem k101_6 : cod 101 6 = some (.ifCond .eq (10), 3, 16, 0, 0, 0) := rfl
theorem e101_6 (x : Int32) (ls : mL) (st : List Value) (σ : mS) : ev 101 6 ls (.int x :: st) σ = if x = 0 then ev 101 16 ls st σ else ev 101 9 ls st σ := e_if_eq k101_6
theorem k101_9 : cod 101 9 = some (.iload_n 2, 1, 0, 0, 0, 0) := rfl
theorem e101_9 (a0 a1 : Option Value) (x : Int32) (ls : mL) (st : List Value) (σ : mS) : ev 101 9 (a0 :: a1 :: some (.int x) :: ls) st σ = ev 101 10 (a0 :: a1 :: some (.int x) :: ls) (.int x :: st) σ := e_iload1 k101_9 rfl
theorem k101_10 : cod 101 10 = some (.invokestatic 112, 3, 92, 1, 0, 0) := rfl
theorem e101_10 (x0 : Int32) (ls : mL) (st : List Value) (σ : mS) (hm : mCat st ≤ 8) : ev 101 10 ls (.int x0 :: st) σ = (evM 92 [.int x0] σ).bind fun z => ev 101 13 ls (z.1.toList ++ st) z.2 := e_callS k101_10 (by decide) rfl ⟨hm, Nat.le_of_ble_eq_true rfl⟩
theorem k101_13 : cod 101 13 = some (.ifCond .ne (5), 3, 18, 0, 0, 0) := rfl
theorem e101_13 (x : Int32) (ls : mL) (st : List Value) (σ : mS) : ev 101 13 ls (.int x :: st) σ = if x = 0 then ev 101 16 ls st σ else ev 101 18 ls st σ := e_if_ne k101_13
theorem k101_16 : cod 101 16 = some (.iconst (-1), 1, 0, 0, 0, 0) := rfl
theorem e101_16 (ls : mL) (st : List Value) (σ : mS) : ev 101 16 ls st σ = ev 101 17 ls (.int (-1) :: st) σ := e_iconst (-1) k101_16 (by decide)
theorem k101_17 : cod 101 17 = some (.ireturn, 1, 0, 0, 0, 0) := rfl
theorem e101_17 (x : Int32) (ls : mL) (σ : mS) : ev 101 17 ls [.int x] σ = some (some (.int x), σ) := e_iret k101_17 rfl
theorem k101_18 : cod 101 18 = some (.aload_n 0, 1, 0, 0, 0, 0) := rfl
theorem e101_18 (x : Nat) (ls : mL) (st : List Value) (σ : mS) : ev 101 18 (some (.ref x) :: ls) st σ = ev 101 19 (some (.ref x) :: ls) (.ref x :: st) σ := e_aload1 k101_18 rfl
theorem k101_19 : cod 101 19 = some (.dup, 1, 0, 0, 0, 0) := rfl
theorem e101_19i (x : Int32) (ls : mL) (st : List Value) (σ : mS) : ev 101 19 ls (.int x :: st) σ = ev 101 20 ls (.int x :: .int x :: st) σ := e_dupI k101_19
theorem e101_19r (x : Nat) (ls : mL) (st : List Value) (σ : mS) : ev 101 19 ls (.ref x :: st) σ = ev 101 20 ls (.ref x :: .ref x :: st) σ := e_dupR k101_19
theorem k101_20 : cod 101 20 = some (.getfield 140, 3, 7, 10, 0, 2) := rfl
theorem e101_20 (t : Nat) (ls : mL) (st : List Value) (σ : mS) : ev 101 20 ls (.ref t :: st) σ = gfK (σ.1 t) 7 10 (fun v => ev 101 23 ls (v :: st) σ) := e_getf k101_20
theorem k101_23 : cod 101 23 = some (.iload_n 1, 1, 0, 0, 0, 0) := rfl
theorem e101_23 (a0 : Option Value) (x : Int32) (ls : mL) (st : List Value) (σ : mS) : ev 101 23 (a0 :: some (.int x) :: ls) st σ = ev 101 24 (a0 :: some (.int x) :: ls) (.int x :: st) σ := e_iload1 k101_23 rfl
theorem k101_24 : cod 101 24 = some (.invokestatic 144, 3, 217, 1, 0, 0) := rfl
theorem e101_24 (x0 : Int32) (ls : mL) (st : List Value) (σ : mS) (hm : mCat st ≤ 8) : ev 101 24 ls (.int x0 :: st) σ = (evM 217 [.int x0] σ).bind fun z => ev 101 27 ls (z.1.toList ++ st) z.2 := e_callS k101_24 (by decide) rfl ⟨hm, Nat.le_of_ble_eq_true rfl⟩
theorem k101_27 : cod 101 27 = some (.ladd, 1, 0, 0, 0, 0) := rfl
theorem e101_27 (x y : Int64) (ls : mL) (st : List Value) (σ : mS) : ev 101 27 ls (.long y :: .long x :: st) σ = ev 101 28 ls (.long (x + y) :: st) σ := e_ladd k101_27
theorem k101_28 : cod 101 28 = some (.putfield 140, 3, 7, 10, 0, 2) := rfl
theorem e101_28 (x : Int64) (t : Nat) (ls : mL) (st : List Value) (σ : mS) : ev 101 28 ls (.long x :: .ref t :: st) σ = pfK (σ.1 t) 7 10 (.long x) (fun e => ev 101 31 ls st (mset σ t e)) := e_putJ k101_28
theorem k101_31 : cod 101 31 = some (.iload_n 1, 1, 0, 0, 0, 0) := rfl
theorem e101_31 (a0 : Option Value) (x : Int32) (ls : mL) (st : List Value) (σ : mS) : ev 101 31 (a0 :: some (.int x) :: ls) st σ = ev 101 32 (a0 :: some (.int x) :: ls) (.int x :: st) σ := e_iload1 k101_31 rfl
theorem k101_32 : cod 101 32 = some (.aload_n 0, 1, 0, 0, 0, 0) := rfl
theorem e101_32 (x : Nat) (ls : mL) (st : List Value) (σ : mS) : ev 101 32 (some (.ref x) :: ls) st σ = ev 101 33 (some (.ref x) :: ls) (.ref x :: st) σ := e_aload1 k101_32 rfl
theorem k101_33 : cod 101 33 = some (.getfield 46, 3, 7, 7, 0, 3) := rfl
theorem e101_33 (t : Nat) (ls : mL) (st : List Value) (σ : mS) : ev 101 33 ls (.ref t :: st) σ = gfK (σ.1 t) 7 7 (fun v => ev 101 36 ls (v :: st) σ) := e_getf k101_33
theorem k101_36 : cod 101 36 = some (.iload_n 2, 1, 0, 0, 0, 0) := rfl
theorem e101_36 (a0 a1 : Option Value) (x : Int32) (ls : mL) (st : List Value) (σ : mS) : ev 101 36 (a0 :: a1 :: some (.int x) :: ls) st σ = ev 101 37 (a0 :: a1 :: some (.int x) :: ls) (.int x :: st) σ := e_iload1 k101_36 rfl
theorem k101_37 : cod 101 37 = some (.iaload, 1, 0, 0, 0, 0) := rfl
theorem e101_37 (j : Int32) (t : Nat) (ls : mL) (st : List Value) (σ : mS) : ev 101 37 ls (.int j :: .ref t :: st) σ = alK (σ.1 t) 0 j (fun v => ev 101 38 ls (.int v :: st) σ) := e_iald k101_37
theorem k101_38 : cod 101 38 = some (.invokestatic 148, 3, 218, 2, 0, 0) := rfl
theorem e101_38 (x0 : Int32) (x1 : Int32) (ls : mL) (st : List Value) (σ : mS) (hm : mCat st ≤ 8) : ev 101 38 ls (.int x1 :: .int x0 :: st) σ = (evM 218 [.int x0, .int x1] σ).bind fun z => ev 101 41 ls (z.1.toList ++ st) z.2 := e_callS k101_38 (by decide) rfl ⟨hm, Nat.le_of_ble_eq_true rfl⟩
theorem k101_41 : cod 101 41 = some (.ireturn, 1, 0, 0, 0, 0) := rfl
theorem e101_41 (x : Int32) (ls : mL) (σ : mS) : ev 101 41 ls [.int x] σ = some (some (.int x), σ) := e_iret k101_41 rfl
theorem m101 (t : Nat) (x0 : Int32) (x1 : Int32) (σ : mS) : evM 101 [.ref t, .int x0, .int x1] σ = ev 101 0 [some (.ref t), some (.int x0), some (.int x1)] [] σ := rfl
theorem k102_0 : cod 102 0 = some (.aload_n 0, 1, 0, 0, 0, 0) := rfl
theorem e102_0 (x : Nat) (ls : mL) (st : List Value) (σ : mS) : ev 102 0 (some (.ref x) :: ls) st σ = ev 102 1 (some (.ref x) :: ls) (.ref x :: st) σ := e_aload1 k102_0 rfl
theorem k102_1 : cod 102 1 = some (.getfield 36, 3, 7, 4, 0, 3) := rfl
theorem e102_1 (t : Nat) (ls : mL) (st : List Value) (σ : mS) : ev 102 1 ls (.ref t :: st) σ = gfK (σ.1 t) 7 4 (fun v => ev 102 4 ls (v :: st) σ) := e_getf k102_1
theorem k102_4 : cod 102 4 = some (.getfield 151, 3, 0, 0, 1, 3) := rfl
theorem e102_4 (t : Nat) (ls : mL) (st : List Value) (σ : mS) : ev 102 4 ls (.ref t :: st) σ = gfK (σ.1 t) 0 0 (fun v => ev 102 7 ls (v :: st) σ) := e_getf k102_4
theorem k102_7 : cod 102 7 = some (.iload_n 1, 1, 0, 0, 0, 0) := rfl
theorem e102_7 (a0 : Option Value) (x : Int32) (ls : mL) (st : List Value) (σ : mS) : ev 102 7 (a0 :: some (.int x) :: ls) st σ = ev 102 8 (a0 :: some (.int x) :: ls) (.int x :: st) σ := e_iload1 k102_7 rfl
theorem k102_8 : cod 102 8 = some (.invokevirtual 155, 3, 37, 1, 0, 3) := rfl
theorem e102_8 (t : Nat) (x0 : Int32) (ls : mL) (st : List Value) (σ : mS) (hm : mCat st ≤ 8) : ev 102 8 ls (.int x0 :: .ref t :: st) σ = isC (σ.1 t) 3 ((evM 37 [.ref t, .int x0] σ).bind fun z => ev 102 11 ls (z.1.toList ++ st) z.2) := e_callVK k102_8 (by decide) rfl ⟨hm, Nat.le_of_ble_eq_true rfl⟩
theorem k102_11 : cod 102 11 = some (.ifCond .eq (14), 3, 25, 0, 0, 0) := rfl
theorem e102_11 (x : Int32) (ls : mL) (st : List Value) (σ : mS) : ev 102 11 ls (.int x :: st) σ = if x = 0 then ev 102 25 ls st σ else ev 102 14 ls st σ := e_if_eq k102_11
theorem k102_14 : cod 102 14 = some (.iload_n 2, 1, 0, 0, 0, 0) := rfl
theorem e102_14 (a0 a1 : Option Value) (x : Int32) (ls : mL) (st : List Value) (σ : mS) : ev 102 14 (a0 :: a1 :: some (.int x) :: ls) st σ = ev 102 15 (a0 :: a1 :: some (.int x) :: ls) (.int x :: st) σ := e_iload1 k102_14 rfl
theorem k102_15 : cod 102 15 = some (.iconst 0, 1, 0, 0, 0, 0) := rfl
theorem e102_15 (ls : mL) (st : List Value) (σ : mS) : ev 102 15 ls st σ = ev 102 16 ls (.int 0 :: st) σ := e_iconst 0 k102_15 (by decide)
theorem k102_16 : cod 102 16 = some (.sipush (1000), 3, 0, 0, 0, 0) := rfl
theorem e102_16 (ls : mL) (st : List Value) (σ : mS) : ev 102 16 ls st σ = ev 102 19 ls (.int 1000 :: st) σ := e_sipush 1000 k102_16 (by decide)
theorem k102_19 : cod 102 19 = some (.invokestatic 78, 3, 87, 3, 0, 0) := rfl
theorem e102_19 (x0 : Int32) (x1 : Int32) (x2 : Int32) (ls : mL) (st : List Value) (σ : mS) (hm : mCat st ≤ 8) : ev 102 19 ls (.int x2 :: .int x1 :: .int x0 :: st) σ = (evM 87 [.int x0, .int x1, .int x2] σ).bind fun z => ev 102 22 ls (z.1.toList ++ st) z.2 := e_callS k102_19 (by decide) rfl ⟨hm, Nat.le_of_ble_eq_true rfl⟩
theorem k102_22 : cod 102 22 = some (.ifCond .ne (5), 3, 27, 0, 0, 0) := rfl
theorem e102_22 (x : Int32) (ls : mL) (st : List Value) (σ : mS) : ev 102 22 ls (.int x :: st) σ = if x = 0 then ev 102 25 ls st σ else ev 102 27 ls st σ := e_if_ne k102_22
theorem k102_25 : cod 102 25 = some (.iconst (-1), 1, 0, 0, 0, 0) := rfl
theorem e102_25 (ls : mL) (st : List Value) (σ : mS) : ev 102 25 ls st σ = ev 102 26 ls (.int (-1) :: st) σ := e_iconst (-1) k102_25 (by decide)
theorem k102_26 : cod 102 26 = some (.ireturn, 1, 0, 0, 0, 0) := rfl
theorem e102_26 (x : Int32) (ls : mL) (σ : mS) : ev 102 26 ls [.int x] σ = some (some (.int x), σ) := e_iret k102_26 rfl
theorem k102_27 : cod 102 27 = some (.aload_n 0, 1, 0, 0, 0, 0) := rfl
theorem e102_27 (x : Nat) (ls : mL) (st : List Value) (σ : mS) : ev 102 27 (some (.ref x) :: ls) st σ = ev 102 28 (some (.ref x) :: ls) (.ref x :: st) σ := e_aload1 k102_27 rfl
theorem k102_28 : cod 102 28 = some (.getfield 36, 3, 7, 4, 0, 3) := rfl
theorem e102_28 (t : Nat) (ls : mL) (st : List Value) (σ : mS) : ev 102 28 ls (.ref t :: st) σ = gfK (σ.1 t) 7 4 (fun v => ev 102 31 ls (v :: st) σ) := e_getf k102_28
theorem k102_31 : cod 102 31 = some (.iload_n 1, 1, 0, 0, 0, 0) := rfl
theorem e102_31 (a0 : Option Value) (x : Int32) (ls : mL) (st : List Value) (σ : mS) : ev 102 31 (a0 :: some (.int x) :: ls) st σ = ev 102 32 (a0 :: some (.int x) :: ls) (.int x :: st) σ := e_iload1 k102_31 rfl
theorem k102_32 : cod 102 32 = some (.iload_n 2, 1, 0, 0, 0, 0) := rfl
theorem e102_32 (a0 a1 : Option Value) (x : Int32) (ls : mL) (st : List Value) (σ : mS) : ev 102 32 (a0 :: a1 :: some (.int x) :: ls) st σ = ev 102 33 (a0 :: a1 :: some (.int x) :: ls) (.int x :: st) σ := e_iload1 k102_32 rfl
theorem k102_33 : cod 102 33 = some (.invokevirtual 74, 3, 1, 2, 0, 0) := rfl
theorem e102_33 (t : Nat) (x0 : Int32) (x1 : Int32) (ls : mL) (st : List Value) (σ : mS) (hm : mCat st ≤ 8) : ev 102 33 ls (.int x1 :: .int x0 :: .ref t :: st) σ = isC (σ.1 t) 0 ((evM 1 [.ref t, .int x0, .int x1] σ).bind fun z => ev 102 36 ls (z.1.toList ++ st) z.2) := e_callVK k102_33 (by decide) rfl ⟨hm, Nat.le_of_ble_eq_true rfl⟩
theorem k102_36 : cod 102 36 = some (.istore_n 3, 1, 0, 0, 0, 0) := rfl
theorem e102_36i (a0 a1 : Option Value) (y : Int32) (o : Option Value) (x : Int32) (ls : mL) (st : List Value) (σ : mS) : ev 102 36 (a0 :: a1 :: some (.int y) :: o :: ls) (.int x :: st) σ = ev 102 37 (a0 :: a1 :: some (.int y) :: some (.int x) :: ls) st σ := e_istore1 k102_36 (Nat.le_add_left 4 ls.length)
theorem e102_36n (a0 a1 : Option Value) (o : Option Value) (x : Int32) (ls : mL) (st : List Value) (σ : mS) : ev 102 36 (a0 :: a1 :: none :: o :: ls) (.int x :: st) σ = ev 102 37 (a0 :: a1 :: none :: some (.int x) :: ls) st σ := e_istore1 k102_36 (Nat.le_add_left 4 ls.length)
theorem e102_36r (a0 a1 : Option Value) (y : Nat) (o : Option Value) (x : Int32) (ls : mL) (st : List Value) (σ : mS) : ev 102 36 (a0 :: a1 :: some (.ref y) :: o :: ls) (.int x :: st) σ = ev 102 37 (a0 :: a1 :: some (.ref y) :: some (.int x) :: ls) st σ := e_istore1 k102_36 (Nat.le_add_left 4 ls.length)
theorem k102_37 : cod 102 37 = some (.iload_n 3, 1, 0, 0, 0, 0) := rfl
theorem e102_37 (a0 a1 a2 : Option Value) (x : Int32) (ls : mL) (st : List Value) (σ : mS) : ev 102 37 (a0 :: a1 :: a2 :: some (.int x) :: ls) st σ = ev 102 38 (a0 :: a1 :: a2 :: some (.int x) :: ls) (.int x :: st) σ := e_iload1 k102_37 rfl
theorem k102_38 : cod 102 38 = some (.ifCond .lt (9), 3, 47, 0, 0, 0) := rfl
theorem e102_38 (x : Int32) (ls : mL) (st : List Value) (σ : mS) : ev 102 38 ls (.int x :: st) σ = if x < 0 then ev 102 47 ls st σ else ev 102 41 ls st σ := e_if_lt k102_38
theorem k102_41 : cod 102 41 = some (.iload_n 3, 1, 0, 0, 0, 0) := rfl
theorem e102_41 (a0 a1 a2 : Option Value) (x : Int32) (ls : mL) (st : List Value) (σ : mS) : ev 102 41 (a0 :: a1 :: a2 :: some (.int x) :: ls) st σ = ev 102 42 (a0 :: a1 :: a2 :: some (.int x) :: ls) (.int x :: st) σ := e_iload1 k102_41 rfl
theorem k102_42 : cod 102 42 = some (.bipush (8), 2, 0, 0, 0, 0) := rfl
theorem e102_42 (ls : mL) (st : List Value) (σ : mS) : ev 102 42 ls st σ = ev 102 44 ls (.int 8 :: st) σ := e_bipush 8 k102_42 (by decide)
theorem k102_44 : cod 102 44 = some (.if_icmp .lt (6), 3, 50, 0, 0, 0) := rfl
theorem e102_44 (x y : Int32) (ls : mL) (st : List Value) (σ : mS) : ev 102 44 ls (.int y :: .int x :: st) σ = if x < y then ev 102 50 ls st σ else ev 102 47 ls st σ := e_ic_lt k102_44
theorem k102_47 : cod 102 47 = some (.bipush (-3), 2, 0, 0, 0, 0) := rfl
theorem e102_47 (ls : mL) (st : List Value) (σ : mS) : ev 102 47 ls st σ = ev 102 49 ls (.int (-3) :: st) σ := e_bipush (-3) k102_47 (by decide)
theorem k102_49 : cod 102 49 = some (.ireturn, 1, 0, 0, 0, 0) := rfl
theorem e102_49 (x : Int32) (ls : mL) (σ : mS) : ev 102 49 ls [.int x] σ = some (some (.int x), σ) := e_iret k102_49 rfl
theorem k102_50 : cod 102 50 = some (.aload_n 0, 1, 0, 0, 0, 0) := rfl
theorem e102_50 (x : Nat) (ls : mL) (st : List Value) (σ : mS) : ev 102 50 (some (.ref x) :: ls) st σ = ev 102 51 (some (.ref x) :: ls) (.ref x :: st) σ := e_aload1 k102_50 rfl
theorem k102_51 : cod 102 51 = some (.getfield 53, 3, 7, 9, 0, 3) := rfl
theorem e102_51 (t : Nat) (ls : mL) (st : List Value) (σ : mS) : ev 102 51 ls (.ref t :: st) σ = gfK (σ.1 t) 7 9 (fun v => ev 102 54 ls (v :: st) σ) := e_getf k102_51
theorem k102_54 : cod 102 54 = some (.iload_n 3, 1, 0, 0, 0, 0) := rfl
theorem e102_54 (a0 a1 a2 : Option Value) (x : Int32) (ls : mL) (st : List Value) (σ : mS) : ev 102 54 (a0 :: a1 :: a2 :: some (.int x) :: ls) st σ = ev 102 55 (a0 :: a1 :: a2 :: some (.int x) :: ls) (.int x :: st) σ := e_iload1 k102_54 rfl
theorem k102_55 : cod 102 55 = some (.iconst 0, 1, 0, 0, 0, 0) := rfl
theorem e102_55 (ls : mL) (st : List Value) (σ : mS) : ev 102 55 ls st σ = ev 102 56 ls (.int 0 :: st) σ := e_iconst 0 k102_55 (by decide)
theorem k102_56 : cod 102 56 = some (.iastore, 1, 0, 0, 0, 0) := rfl
theorem e102_56 (j x : Int32) (t : Nat) (ls : mL) (st : List Value) (σ : mS) : ev 102 56 ls (.int x :: .int j :: .ref t :: st) σ = asK (σ.1 t) 0 j x (fun e => ev 102 57 ls st (mset σ t e)) := e_iast k102_56
theorem k102_57 : cod 102 57 = some (.iload_n 3, 1, 0, 0, 0, 0) := rfl
theorem e102_57 (a0 a1 a2 : Option Value) (x : Int32) (ls : mL) (st : List Value) (σ : mS) : ev 102 57 (a0 :: a1 :: a2 :: some (.int x) :: ls) st σ = ev 102 58 (a0 :: a1 :: a2 :: some (.int x) :: ls) (.int x :: st) σ := e_iload1 k102_57 rfl
theorem k102_58 : cod 102 58 = some (.ireturn, 1, 0, 0, 0, 0) := rfl
theorem e102_58 (x : Int32) (ls : mL) (σ : mS) : ev 102 58 ls [.int x] σ = some (some (.int x), σ) := e_iret k102_58 rfl
theorem m102 (t : Nat) (x0 : Int32) (x1 : Int32) (σ : mS) : evM 102 [.ref t, .int x0, .int x1] σ = ev 102 0 [some (.ref t), some (.int x0), some (.int x1), none] [] σ := rfl
theorem k103_0 : cod 103 0 = some (.aload_n 0, 1, 0, 0, 0, 0) := rfl
theorem e103_0 (x : Nat) (ls : mL) (st : List Value) (σ : mS) : ev 103 0 (some (.ref x) :: ls) st σ = ev 103 1 (some (.ref x) :: ls) (.ref x :: st) σ := e_aload1 k103_0 rfl
theorem k103_1 : cod 103 1 = some (.getfield 36, 3, 7, 4, 0, 3) := rfl
theorem e103_1 (t : Nat) (ls : mL) (st : List Value) (σ : mS) : ev 103 1 ls (.ref t :: st) σ = gfK (σ.1 t) 7 4 (fun v => ev 103 4 ls (v :: st) σ) := e_getf k103_1
theorem k103_4 : cod 103 4 = some (.getfield 151, 3, 0, 0, 1, 3) := rfl
theorem e103_4 (t : Nat) (ls : mL) (st : List Value) (σ : mS) : ev 103 4 ls (.ref t :: st) σ = gfK (σ.1 t) 0 0 (fun v => ev 103 7 ls (v :: st) σ) := e_getf k103_4
theorem k103_7 : cod 103 7 = some (.iload_n 1, 1, 0, 0, 0, 0) := rfl
theorem e103_7 (a0 : Option Value) (x : Int32) (ls : mL) (st : List Value) (σ : mS) : ev 103 7 (a0 :: some (.int x) :: ls) st σ = ev 103 8 (a0 :: some (.int x) :: ls) (.int x :: st) σ := e_iload1 k103_7 rfl
theorem k103_8 : cod 103 8 = some (.invokevirtual 155, 3, 37, 1, 0, 3) := rfl
theorem e103_8 (t : Nat) (x0 : Int32) (ls : mL) (st : List Value) (σ : mS) (hm : mCat st ≤ 8) : ev 103 8 ls (.int x0 :: .ref t :: st) σ = isC (σ.1 t) 3 ((evM 37 [.ref t, .int x0] σ).bind fun z => ev 103 11 ls (z.1.toList ++ st) z.2) := e_callVK k103_8 (by decide) rfl ⟨hm, Nat.le_of_ble_eq_true rfl⟩
theorem k103_11 : cod 103 11 = some (.ifCond .eq (14), 3, 25, 0, 0, 0) := rfl
theorem e103_11 (x : Int32) (ls : mL) (st : List Value) (σ : mS) : ev 103 11 ls (.int x :: st) σ = if x = 0 then ev 103 25 ls st σ else ev 103 14 ls st σ := e_if_eq k103_11
theorem k103_14 : cod 103 14 = some (.iload_n 2, 1, 0, 0, 0, 0) := rfl
theorem e103_14 (a0 a1 : Option Value) (x : Int32) (ls : mL) (st : List Value) (σ : mS) : ev 103 14 (a0 :: a1 :: some (.int x) :: ls) st σ = ev 103 15 (a0 :: a1 :: some (.int x) :: ls) (.int x :: st) σ := e_iload1 k103_14 rfl
theorem k103_15 : cod 103 15 = some (.iconst 0, 1, 0, 0, 0, 0) := rfl
theorem e103_15 (ls : mL) (st : List Value) (σ : mS) : ev 103 15 ls st σ = ev 103 16 ls (.int 0 :: st) σ := e_iconst 0 k103_15 (by decide)
theorem k103_16 : cod 103 16 = some (.sipush (1000), 3, 0, 0, 0, 0) := rfl
theorem e103_16 (ls : mL) (st : List Value) (σ : mS) : ev 103 16 ls st σ = ev 103 19 ls (.int 1000 :: st) σ := e_sipush 1000 k103_16 (by decide)
theorem k103_19 : cod 103 19 = some (.invokestatic 78, 3, 87, 3, 0, 0) := rfl
theorem e103_19 (x0 : Int32) (x1 : Int32) (x2 : Int32) (ls : mL) (st : List Value) (σ : mS) (hm : mCat st ≤ 8) : ev 103 19 ls (.int x2 :: .int x1 :: .int x0 :: st) σ = (evM 87 [.int x0, .int x1, .int x2] σ).bind fun z => ev 103 22 ls (z.1.toList ++ st) z.2 := e_callS k103_19 (by decide) rfl ⟨hm, Nat.le_of_ble_eq_true rfl⟩
theorem k103_22 : cod 103 22 = some (.ifCond .ne (5), 3, 27, 0, 0, 0) := rfl
theorem e103_22 (x : Int32) (ls : mL) (st : List Value) (σ : mS) : ev 103 22 ls (.int x :: st) σ = if x = 0 then ev 103 25 ls st σ else ev 103 27 ls st σ := e_if_ne k103_22
theorem k103_25 : cod 103 25 = some (.iconst (-1), 1, 0, 0, 0, 0) := rfl
theorem e103_25 (ls : mL) (st : List Value) (σ : mS) : ev 103 25 ls st σ = ev 103 26 ls (.int (-1) :: st) σ := e_iconst (-1) k103_25 (by decide)
theorem k103_26 : cod 103 26 = some (.ireturn, 1, 0, 0, 0, 0) := rfl
theorem e103_26 (x : Int32) (ls : mL) (σ : mS) : ev 103 26 ls [.int x] σ = some (some (.int x), σ) := e_iret k103_26 rfl
theorem k103_27 : cod 103 27 = some (.iload_n 2, 1, 0, 0, 0, 0) := rfl
theorem e103_27 (a0 a1 : Option Value) (x : Int32) (ls : mL) (st : List Value) (σ : mS) : ev 103 27 (a0 :: a1 :: some (.int x) :: ls) st σ = ev 103 28 (a0 :: a1 :: some (.int x) :: ls) (.int x :: st) σ := e_iload1 k103_27 rfl
theorem k103_28 : cod 103 28 = some (.aload_n 0, 1, 0, 0, 0, 0) := rfl
theorem e103_28 (x : Nat) (ls : mL) (st : List Value) (σ : mS) : ev 103 28 (some (.ref x) :: ls) st σ = ev 103 29 (some (.ref x) :: ls) (.ref x :: st) σ := e_aload1 k103_28 rfl
theorem k103_29 : cod 103 29 = some (.getfield 36, 3, 7, 4, 0, 3) := rfl
theorem e103_29 (t : Nat) (ls : mL) (st : List Value) (σ : mS) : ev 103 29 ls (.ref t :: st) σ = gfK (σ.1 t) 7 4 (fun v => ev 103 32 ls (v :: st) σ) := e_getf k103_29
theorem k103_32 : cod 103 32 = some (.getfield 151, 3, 0, 0, 1, 3) := rfl
theorem e103_32 (t : Nat) (ls : mL) (st : List Value) (σ : mS) : ev 103 32 ls (.ref t :: st) σ = gfK (σ.1 t) 0 0 (fun v => ev 103 35 ls (v :: st) σ) := e_getf k103_32
theorem k103_35 : cod 103 35 = some (.iload_n 1, 1, 0, 0, 0, 0) := rfl
theorem e103_35 (a0 : Option Value) (x : Int32) (ls : mL) (st : List Value) (σ : mS) : ev 103 35 (a0 :: some (.int x) :: ls) st σ = ev 103 36 (a0 :: some (.int x) :: ls) (.int x :: st) σ := e_iload1 k103_35 rfl
theorem k103_36 : cod 103 36 = some (.iconst 2, 1, 0, 0, 0, 0) := rfl
theorem e103_36 (ls : mL) (st : List Value) (σ : mS) : ev 103 36 ls st σ = ev 103 37 ls (.int 2 :: st) σ := e_iconst 2 k103_36 (by decide)
theorem k103_37 : cod 103 37 = some (.invokevirtual 160, 3, 38, 2, 0, 3) := rfl
theorem e103_37 (t : Nat) (x0 : Int32) (x1 : Int32) (ls : mL) (st : List Value) (σ : mS) (hm : mCat st ≤ 8) : ev 103 37 ls (.int x1 :: .int x0 :: .ref t :: st) σ = isC (σ.1 t) 3 ((evM 38 [.ref t, .int x0, .int x1] σ).bind fun z => ev 103 40 ls (z.1.toList ++ st) z.2) := e_callVK k103_37 (by decide) rfl ⟨hm, Nat.le_of_ble_eq_true rfl⟩
theorem k103_40 : cod 103 40 = some (.if_icmp .ge (6), 3, 46, 0, 0, 0) := rfl
theorem e103_40 (x y : Int32) (ls : mL) (st : List Value) (σ : mS) : ev 103 40 ls (.int y :: .int x :: st) σ = if y ≤ x then ev 103 46 ls st σ else ev 103 43 ls st σ := e_ic_ge k103_40
theorem k103_43 : cod 103 43 = some (.bipush (-2), 2, 0, 0, 0, 0) := rfl
theorem e103_43 (ls : mL) (st : List Value) (σ : mS) : ev 103 43 ls st σ = ev 103 45 ls (.int (-2) :: st) σ := e_bipush (-2) k103_43 (by decide)
theorem k103_45 : cod 103 45 = some (.ireturn, 1, 0, 0, 0, 0) := rfl
theorem e103_45 (x : Int32) (ls : mL) (σ : mS) : ev 103 45 ls [.int x] σ = some (some (.int x), σ) := e_iret k103_45 rfl
theorem k103_46 : cod 103 46 = some (.aload_n 0, 1, 0, 0, 0, 0) := rfl
theorem e103_46 (x : Nat) (ls : mL) (st : List Value) (σ : mS) : ev 103 46 (some (.ref x) :: ls) st σ = ev 103 47 (some (.ref x) :: ls) (.ref x :: st) σ := e_aload1 k103_46 rfl
theorem k103_47 : cod 103 47 = some (.getfield 36, 3, 7, 4, 0, 3) := rfl
theorem e103_47 (t : Nat) (ls : mL) (st : List Value) (σ : mS) : ev 103 47 ls (.ref t :: st) σ = gfK (σ.1 t) 7 4 (fun v => ev 103 50 ls (v :: st) σ) := e_getf k103_47
theorem k103_50 : cod 103 50 = some (.getfield 151, 3, 0, 0, 1, 3) := rfl
theorem e103_50 (t : Nat) (ls : mL) (st : List Value) (σ : mS) : ev 103 50 ls (.ref t :: st) σ = gfK (σ.1 t) 0 0 (fun v => ev 103 53 ls (v :: st) σ) := e_getf k103_50
theorem k103_53 : cod 103 53 = some (.iload_n 1, 1, 0, 0, 0, 0) := rfl
theorem e103_53 (a0 : Option Value) (x : Int32) (ls : mL) (st : List Value) (σ : mS) : ev 103 53 (a0 :: some (.int x) :: ls) st σ = ev 103 54 (a0 :: some (.int x) :: ls) (.int x :: st) σ := e_iload1 k103_53 rfl
theorem k103_54 : cod 103 54 = some (.iconst 1, 1, 0, 0, 0, 0) := rfl
theorem e103_54 (ls : mL) (st : List Value) (σ : mS) : ev 103 54 ls st σ = ev 103 55 ls (.int 1 :: st) σ := e_iconst 1 k103_54 (by decide)
theorem k103_55 : cod 103 55 = some (.invokevirtual 160, 3, 38, 2, 0, 3) := rfl
theorem e103_55 (t : Nat) (x0 : Int32) (x1 : Int32) (ls : mL) (st : List Value) (σ : mS) (hm : mCat st ≤ 8) : ev 103 55 ls (.int x1 :: .int x0 :: .ref t :: st) σ = isC (σ.1 t) 3 ((evM 38 [.ref t, .int x0, .int x1] σ).bind fun z => ev 103 58 ls (z.1.toList ++ st) z.2) := e_callVK k103_55 (by decide) rfl ⟨hm, Nat.le_of_ble_eq_true rfl⟩
theorem k103_58 : cod 103 58 = some (.istore_n 3, 1, 0, 0, 0, 0) := rfl
theorem e103_58i (a0 a1 : Option Value) (y : Int32) (o : Option Value) (x : Int32) (ls : mL) (st : List Value) (σ : mS) : ev 103 58 (a0 :: a1 :: some (.int y) :: o :: ls) (.int x :: st) σ = ev 103 59 (a0 :: a1 :: some (.int y) :: some (.int x) :: ls) st σ := e_istore1 k103_58 (Nat.le_add_left 4 ls.length)
theorem e103_58n (a0 a1 : Option Value) (o : Option Value) (x : Int32) (ls : mL) (st : List Value) (σ : mS) : ev 103 58 (a0 :: a1 :: none :: o :: ls) (.int x :: st) σ = ev 103 59 (a0 :: a1 :: none :: some (.int x) :: ls) st σ := e_istore1 k103_58 (Nat.le_add_left 4 ls.length)
theorem e103_58r (a0 a1 : Option Value) (y : Nat) (o : Option Value) (x : Int32) (ls : mL) (st : List Value) (σ : mS) : ev 103 58 (a0 :: a1 :: some (.ref y) :: o :: ls) (.int x :: st) σ = ev 103 59 (a0 :: a1 :: some (.ref y) :: some (.int x) :: ls) st σ := e_istore1 k103_58 (Nat.le_add_left 4 ls.length)
theorem k103_59 : cod 103 59 = some (.aload_n 0, 1, 0, 0, 0, 0) := rfl
theorem e103_59 (x : Nat) (ls : mL) (st : List Value) (σ : mS) : ev 103 59 (some (.ref x) :: ls) st σ = ev 103 60 (some (.ref x) :: ls) (.ref x :: st) σ := e_aload1 k103_59 rfl
theorem k103_60 : cod 103 60 = some (.getfield 36, 3, 7, 4, 0, 3) := rfl
theorem e103_60 (t : Nat) (ls : mL) (st : List Value) (σ : mS) : ev 103 60 ls (.ref t :: st) σ = gfK (σ.1 t) 7 4 (fun v => ev 103 63 ls (v :: st) σ) := e_getf k103_60
theorem k103_63 : cod 103 63 = some (.getfield 151, 3, 0, 0, 1, 3) := rfl
theorem e103_63 (t : Nat) (ls : mL) (st : List Value) (σ : mS) : ev 103 63 ls (.ref t :: st) σ = gfK (σ.1 t) 0 0 (fun v => ev 103 66 ls (v :: st) σ) := e_getf k103_63
theorem k103_66 : cod 103 66 = some (.iload_n 1, 1, 0, 0, 0, 0) := rfl
theorem e103_66 (a0 : Option Value) (x : Int32) (ls : mL) (st : List Value) (σ : mS) : ev 103 66 (a0 :: some (.int x) :: ls) st σ = ev 103 67 (a0 :: some (.int x) :: ls) (.int x :: st) σ := e_iload1 k103_66 rfl
theorem k103_67 : cod 103 67 = some (.iconst 1, 1, 0, 0, 0, 0) := rfl
theorem e103_67 (ls : mL) (st : List Value) (σ : mS) : ev 103 67 ls st σ = ev 103 68 ls (.int 1 :: st) σ := e_iconst 1 k103_67 (by decide)
theorem k103_68 : cod 103 68 = some (.iload_n 2, 1, 0, 0, 0, 0) := rfl
theorem e103_68 (a0 a1 : Option Value) (x : Int32) (ls : mL) (st : List Value) (σ : mS) : ev 103 68 (a0 :: a1 :: some (.int x) :: ls) st σ = ev 103 69 (a0 :: a1 :: some (.int x) :: ls) (.int x :: st) σ := e_iload1 k103_68 rfl
theorem k103_69 : cod 103 69 = some (.invokevirtual 163, 3, 35, 3, 0, 3) := rfl
theorem e103_69 (t : Nat) (x0 : Int32) (x1 : Int32) (x2 : Int32) (ls : mL) (st : List Value) (σ : mS) (hm : mCat st ≤ 8) : ev 103 69 ls (.int x2 :: .int x1 :: .int x0 :: .ref t :: st) σ = isC (σ.1 t) 3 ((evM 35 [.ref t, .int x0, .int x1, .int x2] σ).bind fun z => ev 103 72 ls (z.1.toList ++ st) z.2) := e_callVK k103_69 (by decide) rfl ⟨hm, Nat.le_of_ble_eq_true rfl⟩
theorem k103_72 : cod 103 72 = some (.iload_n 3, 1, 0, 0, 0, 0) := rfl
theorem e103_72 (a0 a1 a2 : Option Value) (x : Int32) (ls : mL) (st : List Value) (σ : mS) : ev 103 72 (a0 :: a1 :: a2 :: some (.int x) :: ls) st σ = ev 103 73 (a0 :: a1 :: a2 :: some (.int x) :: ls) (.int x :: st) σ := e_iload1 k103_72 rfl
theorem k103_73 : cod 103 73 = some (.ireturn, 1, 0, 0, 0, 0) := rfl
theorem e103_73 (x : Int32) (ls : mL) (σ : mS) : ev 103 73 ls [.int x] σ = some (some (.int x), σ) := e_iret k103_73 rfl
theorem m103 (t : Nat) (x0 : Int32) (x1 : Int32) (σ : mS) : evM 103 [.ref t, .int x0, .int x1] σ = ev 103 0 [some (.ref t), some (.int x0), some (.int x1), none] [] σ := rfl
theorem k104_0 : cod 104 0 = some (.aload_n 0, 1, 0, 0, 0, 0) := rfl
theorem e104_0 (x : Nat) (ls : mL) (st : List Value) (σ : mS) : ev 104 0 (some (.ref x) :: ls) st σ = ev 104 1 (some (.ref x) :: ls) (.ref x :: st) σ := e_aload1 k104_0 rfl
theorem k104_1 : cod 104 1 = some (.getfield 36, 3, 7, 4, 0, 3) := rfl
theorem e104_1 (t : Nat) (ls : mL) (st : List Value) (σ : mS) : ev 104 1 ls (.ref t :: st) σ = gfK (σ.1 t) 7 4 (fun v => ev 104 4 ls (v :: st) σ) := e_getf k104_1
theorem k104_4 : cod 104 4 = some (.getfield 151, 3, 0, 0, 1, 3) := rfl
theorem e104_4 (t : Nat) (ls : mL) (st : List Value) (σ : mS) : ev 104 4 ls (.ref t :: st) σ = gfK (σ.1 t) 0 0 (fun v => ev 104 7 ls (v :: st) σ) := e_getf k104_4
theorem k104_7 : cod 104 7 = some (.iload_n 1, 1, 0, 0, 0, 0) := rfl
theorem e104_7 (a0 : Option Value) (x : Int32) (ls : mL) (st : List Value) (σ : mS) : ev 104 7 (a0 :: some (.int x) :: ls) st σ = ev 104 8 (a0 :: some (.int x) :: ls) (.int x :: st) σ := e_iload1 k104_7 rfl
theorem k104_8 : cod 104 8 = some (.invokevirtual 155, 3, 37, 1, 0, 3) := rfl
theorem e104_8 (t : Nat) (x0 : Int32) (ls : mL) (st : List Value) (σ : mS) (hm : mCat st ≤ 8) : ev 104 8 ls (.int x0 :: .ref t :: st) σ = isC (σ.1 t) 3 ((evM 37 [.ref t, .int x0] σ).bind fun z => ev 104 11 ls (z.1.toList ++ st) z.2) := e_callVK k104_8 (by decide) rfl ⟨hm, Nat.le_of_ble_eq_true rfl⟩
theorem k104_11 : cod 104 11 = some (.ifCond .eq (10), 3, 21, 0, 0, 0) := rfl
theorem e104_11 (x : Int32) (ls : mL) (st : List Value) (σ : mS) : ev 104 11 ls (.int x :: st) σ = if x = 0 then ev 104 21 ls st σ else ev 104 14 ls st σ := e_if_eq k104_11
theorem k104_14 : cod 104 14 = some (.iload_n 2, 1, 0, 0, 0, 0) := rfl
theorem e104_14 (a0 a1 : Option Value) (x : Int32) (ls : mL) (st : List Value) (σ : mS) : ev 104 14 (a0 :: a1 :: some (.int x) :: ls) st σ = ev 104 15 (a0 :: a1 :: some (.int x) :: ls) (.int x :: st) σ := e_iload1 k104_14 rfl
theorem k104_15 : cod 104 15 = some (.invokestatic 108, 3, 85, 1, 0, 0) := rfl
theorem e104_15 (x0 : Int32) (ls : mL) (st : List Value) (σ : mS) (hm : mCat st ≤ 8) : ev 104 15 ls (.int x0 :: st) σ = (evM 85 [.int x0] σ).bind fun z => ev 104 18 ls (z.1.toList ++ st) z.2 := e_callS k104_15 (by decide) rfl ⟨hm, Nat.le_of_ble_eq_true rfl⟩
theorem k104_18 : cod 104 18 = some (.ifCond .ne (5), 3, 23, 0, 0, 0) := rfl
theorem e104_18 (x : Int32) (ls : mL) (st : List Value) (σ : mS) : ev 104 18 ls (.int x :: st) σ = if x = 0 then ev 104 21 ls st σ else ev 104 23 ls st σ := e_if_ne k104_18
theorem k104_21 : cod 104 21 = some (.iconst (-1), 1, 0, 0, 0, 0) := rfl
theorem e104_21 (ls : mL) (st : List Value) (σ : mS) : ev 104 21 ls st σ = ev 104 22 ls (.int (-1) :: st) σ := e_iconst (-1) k104_21 (by decide)
theorem k104_22 : cod 104 22 = some (.ireturn, 1, 0, 0, 0, 0) := rfl
theorem e104_22 (x : Int32) (ls : mL) (σ : mS) : ev 104 22 ls [.int x] σ = some (some (.int x), σ) := e_iret k104_22 rfl
theorem k104_23 : cod 104 23 = some (.aload_n 0, 1, 0, 0, 0, 0) := rfl
theorem e104_23 (x : Nat) (ls : mL) (st : List Value) (σ : mS) : ev 104 23 (some (.ref x) :: ls) st σ = ev 104 24 (some (.ref x) :: ls) (.ref x :: st) σ := e_aload1 k104_23 rfl
theorem k104_24 : cod 104 24 = some (.getfield 36, 3, 7, 4, 0, 3) := rfl
theorem e104_24 (t : Nat) (ls : mL) (st : List Value) (σ : mS) : ev 104 24 ls (.ref t :: st) σ = gfK (σ.1 t) 7 4 (fun v => ev 104 27 ls (v :: st) σ) := e_getf k104_24
theorem k104_27 : cod 104 27 = some (.iload_n 1, 1, 0, 0, 0, 0) := rfl
theorem e104_27 (a0 : Option Value) (x : Int32) (ls : mL) (st : List Value) (σ : mS) : ev 104 27 (a0 :: some (.int x) :: ls) st σ = ev 104 28 (a0 :: some (.int x) :: ls) (.int x :: st) σ := e_iload1 k104_27 rfl
theorem k104_28 : cod 104 28 = some (.iload_n 2, 1, 0, 0, 0, 0) := rfl
theorem e104_28 (a0 a1 : Option Value) (x : Int32) (ls : mL) (st : List Value) (σ : mS) : ev 104 28 (a0 :: a1 :: some (.int x) :: ls) st σ = ev 104 29 (a0 :: a1 :: some (.int x) :: ls) (.int x :: st) σ := e_iload1 k104_28 rfl
theorem k104_29 : cod 104 29 = some (.invokevirtual 167, 3, 2, 2, 0, 0) := rfl
theorem e104_29 (t : Nat) (x0 : Int32) (x1 : Int32) (ls : mL) (st : List Value) (σ : mS) (hm : mCat st ≤ 8) : ev 104 29 ls (.int x1 :: .int x0 :: .ref t :: st) σ = isC (σ.1 t) 0 ((evM 2 [.ref t, .int x0, .int x1] σ).bind fun z => ev 104 32 ls (z.1.toList ++ st) z.2) := e_callVK k104_29 (by decide) rfl ⟨hm, Nat.le_of_ble_eq_true rfl⟩
theorem k104_32 : cod 104 32 = some (.istore_n 3, 1, 0, 0, 0, 0) := rfl
theorem e104_32i (a0 a1 : Option Value) (y : Int32) (o : Option Value) (x : Int32) (ls : mL) (st : List Value) (σ : mS) : ev 104 32 (a0 :: a1 :: some (.int y) :: o :: ls) (.int x :: st) σ = ev 104 33 (a0 :: a1 :: some (.int y) :: some (.int x) :: ls) st σ := e_istore1 k104_32 (Nat.le_add_left 4 ls.length)
theorem e104_32n (a0 a1 : Option Value) (o : Option Value) (x : Int32) (ls : mL) (st : List Value) (σ : mS) : ev 104 32 (a0 :: a1 :: none :: o :: ls) (.int x :: st) σ = ev 104 33 (a0 :: a1 :: none :: some (.int x) :: ls) st σ := e_istore1 k104_32 (Nat.le_add_left 4 ls.length)
theorem e104_32r (a0 a1 : Option Value) (y : Nat) (o : Option Value) (x : Int32) (ls : mL) (st : List Value) (σ : mS) : ev 104 32 (a0 :: a1 :: some (.ref y) :: o :: ls) (.int x :: st) σ = ev 104 33 (a0 :: a1 :: some (.ref y) :: some (.int x) :: ls) st σ := e_istore1 k104_32 (Nat.le_add_left 4 ls.length)
theorem k104_33 : cod 104 33 = some (.iload_n 3, 1, 0, 0, 0, 0) := rfl
theorem e104_33 (a0 a1 a2 : Option Value) (x : Int32) (ls : mL) (st : List Value) (σ : mS) : ev 104 33 (a0 :: a1 :: a2 :: some (.int x) :: ls) st σ = ev 104 34 (a0 :: a1 :: a2 :: some (.int x) :: ls) (.int x :: st) σ := e_iload1 k104_33 rfl
theorem k104_34 : cod 104 34 = some (.ifCond .ge (8), 3, 42, 0, 0, 0) := rfl
theorem e104_34 (x : Int32) (ls : mL) (st : List Value) (σ : mS) : ev 104 34 ls (.int x :: st) σ = if 0 ≤ x then ev 104 42 ls st σ else ev 104 37 ls st σ := e_if_ge k104_34
theorem k104_37 : cod 104 37 = some (.bipush (-3), 2, 0, 0, 0, 0) := rfl
theorem e104_37 (ls : mL) (st : List Value) (σ : mS) : ev 104 37 ls st σ = ev 104 39 ls (.int (-3) :: st) σ := e_bipush (-3) k104_37 (by decide)
theorem k104_39 : cod 104 39 = some (.goto (4), 3, 43, 0, 0, 0) := rfl
theorem e104_39 (ls : mL) (st : List Value) (σ : mS) : ev 104 39 ls st σ = ev 104 43 ls st σ := e_goto k104_39
theorem k104_42 : cod 104 42 = some (.iload_n 3, 1, 0, 0, 0, 0) := rfl
theorem e104_42 (a0 a1 a2 : Option Value) (x : Int32) (ls : mL) (st : List Value) (σ : mS) : ev 104 42 (a0 :: a1 :: a2 :: some (.int x) :: ls) st σ = ev 104 43 (a0 :: a1 :: a2 :: some (.int x) :: ls) (.int x :: st) σ := e_iload1 k104_42 rfl
theorem k104_43 : cod 104 43 = some (.ireturn, 1, 0, 0, 0, 0) := rfl
theorem e104_43 (x : Int32) (ls : mL) (σ : mS) : ev 104 43 ls [.int x] σ = some (some (.int x), σ) := e_iret k104_43 rfl
theorem m104 (t : Nat) (x0 : Int32) (x1 : Int32) (σ : mS) : evM 104 [.ref t, .int x0, .int x1] σ = ev 104 0 [some (.ref t), some (.int x0), some (.int x1), none] [] σ := rfl
theorem k105_0 : cod 105 0 = some (.aload_n 0, 1, 0, 0, 0, 0) := rfl
theorem e105_0 (x : Nat) (ls : mL) (st : List Value) (σ : mS) : ev 105 0 (some (.ref x) :: ls) st σ = ev 105 1 (some (.ref x) :: ls) (.ref x :: st) σ := e_aload1 k105_0 rfl
theorem k105_1 : cod 105 1 = some (.getfield 36, 3, 7, 4, 0, 3) := rfl
theorem e105_1 (t : Nat) (ls : mL) (st : List Value) (σ : mS) : ev 105 1 ls (.ref t :: st) σ = gfK (σ.1 t) 7 4 (fun v => ev 105 4 ls (v :: st) σ) := e_getf k105_1
theorem k105_4 : cod 105 4 = some (.getfield 151, 3, 0, 0, 1, 3) := rfl
theorem e105_4 (t : Nat) (ls : mL) (st : List Value) (σ : mS) : ev 105 4 ls (.ref t :: st) σ = gfK (σ.1 t) 0 0 (fun v => ev 105 7 ls (v :: st) σ) := e_getf k105_4
theorem k105_7 : cod 105 7 = some (.iload_n 1, 1, 0, 0, 0, 0) := rfl
theorem e105_7 (a0 : Option Value) (x : Int32) (ls : mL) (st : List Value) (σ : mS) : ev 105 7 (a0 :: some (.int x) :: ls) st σ = ev 105 8 (a0 :: some (.int x) :: ls) (.int x :: st) σ := e_iload1 k105_7 rfl
theorem k105_8 : cod 105 8 = some (.invokevirtual 155, 3, 37, 1, 0, 3) := rfl
theorem e105_8 (t : Nat) (x0 : Int32) (ls : mL) (st : List Value) (σ : mS) (hm : mCat st ≤ 8) : ev 105 8 ls (.int x0 :: .ref t :: st) σ = isC (σ.1 t) 3 ((evM 37 [.ref t, .int x0] σ).bind fun z => ev 105 11 ls (z.1.toList ++ st) z.2) := e_callVK k105_8 (by decide) rfl ⟨hm, Nat.le_of_ble_eq_true rfl⟩
theorem k105_11 : cod 105 11 = some (.ifCond .eq (16), 3, 27, 0, 0, 0) := rfl
theorem e105_11 (x : Int32) (ls : mL) (st : List Value) (σ : mS) : ev 105 11 ls (.int x :: st) σ = if x = 0 then ev 105 27 ls st σ else ev 105 14 ls st σ := e_if_eq k105_11
theorem k105_14 : cod 105 14 = some (.aload_n 0, 1, 0, 0, 0, 0) := rfl
theorem e105_14 (x : Nat) (ls : mL) (st : List Value) (σ : mS) : ev 105 14 (some (.ref x) :: ls) st σ = ev 105 15 (some (.ref x) :: ls) (.ref x :: st) σ := e_aload1 k105_14 rfl
theorem k105_15 : cod 105 15 = some (.iload_n 2, 1, 0, 0, 0, 0) := rfl
theorem e105_15 (a0 a1 : Option Value) (x : Int32) (ls : mL) (st : List Value) (σ : mS) : ev 105 15 (a0 :: a1 :: some (.int x) :: ls) st σ = ev 105 16 (a0 :: a1 :: some (.int x) :: ls) (.int x :: st) σ := e_iload1 k105_15 rfl
theorem k105_16 : cod 105 16 = some (.iload_n 3, 1, 0, 0, 0, 0) := rfl
theorem e105_16 (a0 a1 a2 : Option Value) (x : Int32) (ls : mL) (st : List Value) (σ : mS) : ev 105 16 (a0 :: a1 :: a2 :: some (.int x) :: ls) st σ = ev 105 17 (a0 :: a1 :: a2 :: some (.int x) :: ls) (.int x :: st) σ := e_iload1 k105_16 rfl
theorem k105_17 : cod 105 17 = some (.iload 4, 2, 0, 0, 0, 0) := rfl
theorem e105_17 (a0 a1 a2 a3 : Option Value) (x : Int32) (ls : mL) (st : List Value) (σ : mS) : ev 105 17 (a0 :: a1 :: a2 :: a3 :: some (.int x) :: ls) st σ = ev 105 19 (a0 :: a1 :: a2 :: a3 :: some (.int x) :: ls) (.int x :: st) σ := e_iload0 k105_17 rfl
theorem k105_19 : cod 105 19 = some (.iload 5, 2, 0, 0, 0, 0) := rfl
theorem e105_19 (a0 a1 a2 a3 a4 : Option Value) (x : Int32) (ls : mL) (st : List Value) (σ : mS) : ev 105 19 (a0 :: a1 :: a2 :: a3 :: a4 :: some (.int x) :: ls) st σ = ev 105 21 (a0 :: a1 :: a2 :: a3 :: a4 :: some (.int x) :: ls) (.int x :: st) σ := e_iload0 k105_19 rfl
theorem k105_21 : cod 105 21 = some (.invokevirtual 170, 3, 106, 4, 0, 7) := rfl
theorem e105_21 (t : Nat) (x0 : Int32) (x1 : Int32) (x2 : Int32) (x3 : Int32) (ls : mL) (st : List Value) (σ : mS) (hm : mCat st ≤ 8) : ev 105 21 ls (.int x3 :: .int x2 :: .int x1 :: .int x0 :: .ref t :: st) σ = isC (σ.1 t) 7 ((evM 106 [.ref t, .int x0, .int x1, .int x2, .int x3] σ).bind fun z => ev 105 24 ls (z.1.toList ++ st) z.2) := e_callVK k105_21 (by decide) rfl ⟨hm, Nat.le_of_ble_eq_true rfl⟩
theorem k105_24 : cod 105 24 = some (.ifCond .ne (5), 3, 29, 0, 0, 0) := rfl
theorem e105_24 (x : Int32) (ls : mL) (st : List Value) (σ : mS) : ev 105 24 ls (.int x :: st) σ = if x = 0 then ev 105 27 ls st σ else ev 105 29 ls st σ := e_if_ne k105_24
theorem k105_27 : cod 105 27 = some (.iconst (-1), 1, 0, 0, 0, 0) := rfl
theorem e105_27 (ls : mL) (st : List Value) (σ : mS) : ev 105 27 ls st σ = ev 105 28 ls (.int (-1) :: st) σ := e_iconst (-1) k105_27 (by decide)
theorem k105_28 : cod 105 28 = some (.ireturn, 1, 0, 0, 0, 0) := rfl
theorem e105_28 (x : Int32) (ls : mL) (σ : mS) : ev 105 28 ls [.int x] σ = some (some (.int x), σ) := e_iret k105_28 rfl
theorem k105_29 : cod 105 29 = some (.aload_n 0, 1, 0, 0, 0, 0) := rfl
theorem e105_29 (x : Nat) (ls : mL) (st : List Value) (σ : mS) : ev 105 29 (some (.ref x) :: ls) st σ = ev 105 30 (some (.ref x) :: ls) (.ref x :: st) σ := e_aload1 k105_29 rfl
theorem k105_30 : cod 105 30 = some (.getfield 36, 3, 7, 4, 0, 3) := rfl
theorem e105_30 (t : Nat) (ls : mL) (st : List Value) (σ : mS) : ev 105 30 ls (.ref t :: st) σ = gfK (σ.1 t) 7 4 (fun v => ev 105 33 ls (v :: st) σ) := e_getf k105_30
theorem k105_33 : cod 105 33 = some (.aload_n 0, 1, 0, 0, 0, 0) := rfl
theorem e105_33 (x : Nat) (ls : mL) (st : List Value) (σ : mS) : ev 105 33 (some (.ref x) :: ls) st σ = ev 105 34 (some (.ref x) :: ls) (.ref x :: st) σ := e_aload1 k105_33 rfl
theorem k105_34 : cod 105 34 = some (.getfield 36, 3, 7, 4, 0, 3) := rfl
theorem e105_34 (t : Nat) (ls : mL) (st : List Value) (σ : mS) : ev 105 34 ls (.ref t :: st) σ = gfK (σ.1 t) 7 4 (fun v => ev 105 37 ls (v :: st) σ) := e_getf k105_34
theorem k105_37 : cod 105 37 = some (.getfield 174, 3, 0, 1, 1, 3) := rfl
theorem e105_37 (t : Nat) (ls : mL) (st : List Value) (σ : mS) : ev 105 37 ls (.ref t :: st) σ = gfK (σ.1 t) 0 1 (fun v => ev 105 40 ls (v :: st) σ) := e_getf k105_37
theorem k105_40 : cod 105 40 = some (.iload_n 2, 1, 0, 0, 0, 0) := rfl
theorem e105_40 (a0 a1 : Option Value) (x : Int32) (ls : mL) (st : List Value) (σ : mS) : ev 105 40 (a0 :: a1 :: some (.int x) :: ls) st σ = ev 105 41 (a0 :: a1 :: some (.int x) :: ls) (.int x :: st) σ := e_iload1 k105_40 rfl
theorem k105_41 : cod 105 41 = some (.iconst 1, 1, 0, 0, 0, 0) := rfl
theorem e105_41 (ls : mL) (st : List Value) (σ : mS) : ev 105 41 ls st σ = ev 105 42 ls (.int 1 :: st) σ := e_iconst 1 k105_41 (by decide)
theorem k105_42 : cod 105 42 = some (.invokevirtual 160, 3, 38, 2, 0, 3) := rfl
theorem e105_42 (t : Nat) (x0 : Int32) (x1 : Int32) (ls : mL) (st : List Value) (σ : mS) (hm : mCat st ≤ 8) : ev 105 42 ls (.int x1 :: .int x0 :: .ref t :: st) σ = isC (σ.1 t) 3 ((evM 38 [.ref t, .int x0, .int x1] σ).bind fun z => ev 105 45 ls (z.1.toList ++ st) z.2) := e_callVK k105_42 (by decide) rfl ⟨hm, Nat.le_of_ble_eq_true rfl⟩
theorem k105_45 : cod 105 45 = some (.iload_n 1, 1, 0, 0, 0, 0) := rfl
theorem e105_45 (a0 : Option Value) (x : Int32) (ls : mL) (st : List Value) (σ : mS) : ev 105 45 (a0 :: some (.int x) :: ls) st σ = ev 105 46 (a0 :: some (.int x) :: ls) (.int x :: st) σ := e_iload1 k105_45 rfl
theorem k105_46 : cod 105 46 = some (.invokevirtual 177, 3, 3, 2, 0, 0) := rfl
theorem e105_46 (t : Nat) (x0 : Int32) (x1 : Int32) (ls : mL) (st : List Value) (σ : mS) (hm : mCat st ≤ 8) : ev 105 46 ls (.int x1 :: .int x0 :: .ref t :: st) σ = isC (σ.1 t) 0 ((evM 3 [.ref t, .int x0, .int x1] σ).bind fun z => ev 105 49 ls (z.1.toList ++ st) z.2) := e_callVK k105_46 (by decide) rfl ⟨hm, Nat.le_of_ble_eq_true rfl⟩
theorem k105_49 : cod 105 49 = some (.ifCond .ne (6), 3, 55, 0, 0, 0) := rfl
theorem e105_49 (x : Int32) (ls : mL) (st : List Value) (σ : mS) : ev 105 49 ls (.int x :: st) σ = if x = 0 then ev 105 52 ls st σ else ev 105 55 ls st σ := e_if_ne k105_49
theorem k105_52 : cod 105 52 = some (.bipush (-2), 2, 0, 0, 0, 0) := rfl
theorem e105_52 (ls : mL) (st : List Value) (σ : mS) : ev 105 52 ls st σ = ev 105 54 ls (.int (-2) :: st) σ := e_bipush (-2) k105_52 (by decide)
theorem k105_54 : cod 105 54 = some (.ireturn, 1, 0, 0, 0, 0) := rfl
theorem e105_54 (x : Int32) (ls : mL) (σ : mS) : ev 105 54 ls [.int x] σ = some (some (.int x), σ) := e_iret k105_54 rfl
theorem k105_55 : cod 105 55 = some (.aload_n 0, 1, 0, 0, 0, 0) := rfl
theorem e105_55 (x : Nat) (ls : mL) (st : List Value) (σ : mS) : ev 105 55 (some (.ref x) :: ls) st σ = ev 105 56 (some (.ref x) :: ls) (.ref x :: st) σ := e_aload1 k105_55 rfl
theorem k105_56 : cod 105 56 = some (.getfield 36, 3, 7, 4, 0, 3) := rfl
theorem e105_56 (t : Nat) (ls : mL) (st : List Value) (σ : mS) : ev 105 56 ls (.ref t :: st) σ = gfK (σ.1 t) 7 4 (fun v => ev 105 59 ls (v :: st) σ) := e_getf k105_56
theorem k105_59 : cod 105 59 = some (.iload_n 2, 1, 0, 0, 0, 0) := rfl
theorem e105_59 (a0 a1 : Option Value) (x : Int32) (ls : mL) (st : List Value) (σ : mS) : ev 105 59 (a0 :: a1 :: some (.int x) :: ls) st σ = ev 105 60 (a0 :: a1 :: some (.int x) :: ls) (.int x :: st) σ := e_iload1 k105_59 rfl
theorem k105_60 : cod 105 60 = some (.iload_n 3, 1, 0, 0, 0, 0) := rfl
theorem e105_60 (a0 a1 a2 : Option Value) (x : Int32) (ls : mL) (st : List Value) (σ : mS) : ev 105 60 (a0 :: a1 :: a2 :: some (.int x) :: ls) st σ = ev 105 61 (a0 :: a1 :: a2 :: some (.int x) :: ls) (.int x :: st) σ := e_iload1 k105_60 rfl
theorem k105_61 : cod 105 61 = some (.iload 4, 2, 0, 0, 0, 0) := rfl
theorem e105_61 (a0 a1 a2 a3 : Option Value) (x : Int32) (ls : mL) (st : List Value) (σ : mS) : ev 105 61 (a0 :: a1 :: a2 :: a3 :: some (.int x) :: ls) st σ = ev 105 63 (a0 :: a1 :: a2 :: a3 :: some (.int x) :: ls) (.int x :: st) σ := e_iload0 k105_61 rfl
theorem k105_63 : cod 105 63 = some (.iload 5, 2, 0, 0, 0, 0) := rfl
theorem e105_63 (a0 a1 a2 a3 a4 : Option Value) (x : Int32) (ls : mL) (st : List Value) (σ : mS) : ev 105 63 (a0 :: a1 :: a2 :: a3 :: a4 :: some (.int x) :: ls) st σ = ev 105 65 (a0 :: a1 :: a2 :: a3 :: a4 :: some (.int x) :: ls) (.int x :: st) σ := e_iload0 k105_63 rfl
theorem k105_65 : cod 105 65 = some (.invokevirtual 181, 3, 4, 4, 0, 0) := rfl
theorem e105_65 (t : Nat) (x0 : Int32) (x1 : Int32) (x2 : Int32) (x3 : Int32) (ls : mL) (st : List Value) (σ : mS) (hm : mCat st ≤ 8) : ev 105 65 ls (.int x3 :: .int x2 :: .int x1 :: .int x0 :: .ref t :: st) σ = isC (σ.1 t) 0 ((evM 4 [.ref t, .int x0, .int x1, .int x2, .int x3] σ).bind fun z => ev 105 68 ls (z.1.toList ++ st) z.2) := e_callVK k105_65 (by decide) rfl ⟨hm, Nat.le_of_ble_eq_true rfl⟩
theorem k105_68 : cod 105 68 = some (.istore 6, 2, 0, 0, 0, 0) := rfl
theorem e105_68i (a0 a1 a2 a3 a4 : Option Value) (y : Int32) (o : Option Value) (x : Int32) (ls : mL) (st : List Value) (σ : mS) : ev 105 68 (a0 :: a1 :: a2 :: a3 :: a4 :: some (.int y) :: o :: ls) (.int x :: st) σ = ev 105 70 (a0 :: a1 :: a2 :: a3 :: a4 :: some (.int y) :: some (.int x) :: ls) st σ := e_istore0 k105_68 (Nat.le_add_left 7 ls.length)
theorem e105_68n (a0 a1 a2 a3 a4 : Option Value) (o : Option Value) (x : Int32) (ls : mL) (st : List Value) (σ : mS) : ev 105 68 (a0 :: a1 :: a2 :: a3 :: a4 :: none :: o :: ls) (.int x :: st) σ = ev 105 70 (a0 :: a1 :: a2 :: a3 :: a4 :: none :: some (.int x) :: ls) st σ := e_istore0 k105_68 (Nat.le_add_left 7 ls.length)
theorem e105_68r (a0 a1 a2 a3 a4 : Option Value) (y : Nat) (o : Option Value) (x : Int32) (ls : mL) (st : List Value) (σ : mS) : ev 105 68 (a0 :: a1 :: a2 :: a3 :: a4 :: some (.ref y) :: o :: ls) (.int x :: st) σ = ev 105 70 (a0 :: a1 :: a2 :: a3 :: a4 :: some (.ref y) :: some (.int x) :: ls) st σ := e_istore0 k105_68 (Nat.le_add_left 7 ls.length)
theorem k105_70 : cod 105 70 = some (.iload 6, 2, 0, 0, 0, 0) := rfl
theorem e105_70 (a0 a1 a2 a3 a4 a5 : Option Value) (x : Int32) (ls : mL) (st : List Value) (σ : mS) : ev 105 70 (a0 :: a1 :: a2 :: a3 :: a4 :: a5 :: some (.int x) :: ls) st σ = ev 105 72 (a0 :: a1 :: a2 :: a3 :: a4 :: a5 :: some (.int x) :: ls) (.int x :: st) σ := e_iload0 k105_70 rfl
theorem k105_72 : cod 105 72 = some (.ifCond .ge (6), 3, 78, 0, 0, 0) := rfl
theorem e105_72 (x : Int32) (ls : mL) (st : List Value) (σ : mS) : ev 105 72 ls (.int x :: st) σ = if 0 ≤ x then ev 105 78 ls st σ else ev 105 75 ls st σ := e_if_ge k105_72
theorem k105_75 : cod 105 75 = some (.bipush (-3), 2, 0, 0, 0, 0) := rfl
theorem e105_75 (ls : mL) (st : List Value) (σ : mS) : ev 105 75 ls st σ = ev 105 77 ls (.int (-3) :: st) σ := e_bipush (-3) k105_75 (by decide)
theorem k105_77 : cod 105 77 = some (.ireturn, 1, 0, 0, 0, 0) := rfl
theorem e105_77 (x : Int32) (ls : mL) (σ : mS) : ev 105 77 ls [.int x] σ = some (some (.int x), σ) := e_iret k105_77 rfl
theorem k105_78 : cod 105 78 = some (.aload_n 0, 1, 0, 0, 0, 0) := rfl
theorem e105_78 (x : Nat) (ls : mL) (st : List Value) (σ : mS) : ev 105 78 (some (.ref x) :: ls) st σ = ev 105 79 (some (.ref x) :: ls) (.ref x :: st) σ := e_aload1 k105_78 rfl
theorem k105_79 : cod 105 79 = some (.getfield 36, 3, 7, 4, 0, 3) := rfl
theorem e105_79 (t : Nat) (ls : mL) (st : List Value) (σ : mS) : ev 105 79 ls (.ref t :: st) σ = gfK (σ.1 t) 7 4 (fun v => ev 105 82 ls (v :: st) σ) := e_getf k105_79
theorem k105_82 : cod 105 82 = some (.getfield 185, 3, 0, 2, 1, 3) := rfl
theorem e105_82 (t : Nat) (ls : mL) (st : List Value) (σ : mS) : ev 105 82 ls (.ref t :: st) σ = gfK (σ.1 t) 0 2 (fun v => ev 105 85 ls (v :: st) σ) := e_getf k105_82
theorem k105_85 : cod 105 85 = some (.iload 6, 2, 0, 0, 0, 0) := rfl
theorem e105_85 (a0 a1 a2 a3 a4 a5 : Option Value) (x : Int32) (ls : mL) (st : List Value) (σ : mS) : ev 105 85 (a0 :: a1 :: a2 :: a3 :: a4 :: a5 :: some (.int x) :: ls) st σ = ev 105 87 (a0 :: a1 :: a2 :: a3 :: a4 :: a5 :: some (.int x) :: ls) (.int x :: st) σ := e_iload0 k105_85 rfl
theorem k105_87 : cod 105 87 = some (.iconst 4, 1, 0, 0, 0, 0) := rfl
theorem e105_87 (ls : mL) (st : List Value) (σ : mS) : ev 105 87 ls st σ = ev 105 88 ls (.int 4 :: st) σ := e_iconst 4 k105_87 (by decide)
theorem k105_88 : cod 105 88 = some (.bipush (-9), 2, 0, 0, 0, 0) := rfl
theorem e105_88 (ls : mL) (st : List Value) (σ : mS) : ev 105 88 ls st σ = ev 105 90 ls (.int (-9) :: st) σ := e_bipush (-9) k105_88 (by decide)
theorem k105_90 : cod 105 90 = some (.invokevirtual 163, 3, 35, 3, 0, 3) := rfl
theorem e105_90 (t : Nat) (x0 : Int32) (x1 : Int32) (x2 : Int32) (ls : mL) (st : List Value) (σ : mS) (hm : mCat st ≤ 8) : ev 105 90 ls (.int x2 :: .int x1 :: .int x0 :: .ref t :: st) σ = isC (σ.1 t) 3 ((evM 35 [.ref t, .int x0, .int x1, .int x2] σ).bind fun z => ev 105 93 ls (z.1.toList ++ st) z.2) := e_callVK k105_90 (by decide) rfl ⟨hm, Nat.le_of_ble_eq_true rfl⟩
theorem k105_93 : cod 105 93 = some (.aload_n 0, 1, 0, 0, 0, 0) := rfl
theorem e105_93 (x : Nat) (ls : mL) (st : List Value) (σ : mS) : ev 105 93 (some (.ref x) :: ls) st σ = ev 105 94 (some (.ref x) :: ls) (.ref x :: st) σ := e_aload1 k105_93 rfl
theorem k105_94 : cod 105 94 = some (.getfield 36, 3, 7, 4, 0, 3) := rfl
theorem e105_94 (t : Nat) (ls : mL) (st : List Value) (σ : mS) : ev 105 94 ls (.ref t :: st) σ = gfK (σ.1 t) 7 4 (fun v => ev 105 97 ls (v :: st) σ) := e_getf k105_94
theorem k105_97 : cod 105 97 = some (.getfield 185, 3, 0, 2, 1, 3) := rfl
theorem e105_97 (t : Nat) (ls : mL) (st : List Value) (σ : mS) : ev 105 97 ls (.ref t :: st) σ = gfK (σ.1 t) 0 2 (fun v => ev 105 100 ls (v :: st) σ) := e_getf k105_97
theorem k105_100 : cod 105 100 = some (.iload 6, 2, 0, 0, 0, 0) := rfl
theorem e105_100 (a0 a1 a2 a3 a4 a5 : Option Value) (x : Int32) (ls : mL) (st : List Value) (σ : mS) : ev 105 100 (a0 :: a1 :: a2 :: a3 :: a4 :: a5 :: some (.int x) :: ls) st σ = ev 105 102 (a0 :: a1 :: a2 :: a3 :: a4 :: a5 :: some (.int x) :: ls) (.int x :: st) σ := e_iload0 k105_100 rfl
theorem k105_102 : cod 105 102 = some (.iconst 5, 1, 0, 0, 0, 0) := rfl
theorem e105_102 (ls : mL) (st : List Value) (σ : mS) : ev 105 102 ls st σ = ev 105 103 ls (.int 5 :: st) σ := e_iconst 5 k105_102 (by decide)
theorem k105_103 : cod 105 103 = some (.iload_n 1, 1, 0, 0, 0, 0) := rfl
theorem e105_103 (a0 : Option Value) (x : Int32) (ls : mL) (st : List Value) (σ : mS) : ev 105 103 (a0 :: some (.int x) :: ls) st σ = ev 105 104 (a0 :: some (.int x) :: ls) (.int x :: st) σ := e_iload1 k105_103 rfl
theorem k105_104 : cod 105 104 = some (.invokevirtual 163, 3, 35, 3, 0, 3) := rfl
theorem e105_104 (t : Nat) (x0 : Int32) (x1 : Int32) (x2 : Int32) (ls : mL) (st : List Value) (σ : mS) (hm : mCat st ≤ 8) : ev 105 104 ls (.int x2 :: .int x1 :: .int x0 :: .ref t :: st) σ = isC (σ.1 t) 3 ((evM 35 [.ref t, .int x0, .int x1, .int x2] σ).bind fun z => ev 105 107 ls (z.1.toList ++ st) z.2) := e_callVK k105_104 (by decide) rfl ⟨hm, Nat.le_of_ble_eq_true rfl⟩
theorem k105_107 : cod 105 107 = some (.iload 6, 2, 0, 0, 0, 0) := rfl
theorem e105_107 (a0 a1 a2 a3 a4 a5 : Option Value) (x : Int32) (ls : mL) (st : List Value) (σ : mS) : ev 105 107 (a0 :: a1 :: a2 :: a3 :: a4 :: a5 :: some (.int x) :: ls) st σ = ev 105 109 (a0 :: a1 :: a2 :: a3 :: a4 :: a5 :: some (.int x) :: ls) (.int x :: st) σ := e_iload0 k105_107 rfl
theorem k105_109 : cod 105 109 = some (.ireturn, 1, 0, 0, 0, 0) := rfl
theorem e105_109 (x : Int32) (ls : mL) (σ : mS) : ev 105 109 ls [.int x] σ = some (some (.int x), σ) := e_iret k105_109 rfl
theorem m105 (t : Nat) (x0 : Int32) (x1 : Int32) (x2 : Int32) (x3 : Int32) (x4 : Int32) (σ : mS) : evM 105 [.ref t, .int x0, .int x1, .int x2, .int x3, .int x4] σ = ev 105 0 [some (.ref t), some (.int x0), some (.int x1), some (.int x2), some (.int x3), some (.int x4), none] [] σ := rfl
theorem k106_0 : cod 106 0 = some (.aload_n 0, 1, 0, 0, 0, 0) := rfl
theorem e106_0 (x : Nat) (ls : mL) (st : List Value) (σ : mS) : ev 106 0 (some (.ref x) :: ls) st σ = ev 106 1 (some (.ref x) :: ls) (.ref x :: st) σ := e_aload1 k106_0 rfl
theorem k106_1 : cod 106 1 = some (.getfield 36, 3, 7, 4, 0, 3) := rfl
theorem e106_1 (t : Nat) (ls : mL) (st : List Value) (σ : mS) : ev 106 1 ls (.ref t :: st) σ = gfK (σ.1 t) 7 4 (fun v => ev 106 4 ls (v :: st) σ) := e_getf k106_1
theorem k106_4 : cod 106 4 = some (.getfield 174, 3, 0, 1, 1, 3) := rfl
theorem e106_4 (t : Nat) (ls : mL) (st : List Value) (σ : mS) : ev 106 4 ls (.ref t :: st) σ = gfK (σ.1 t) 0 1 (fun v => ev 106 7 ls (v :: st) σ) := e_getf k106_4
theorem k106_7 : cod 106 7 = some (.iload_n 1, 1, 0, 0, 0, 0) := rfl
theorem e106_7 (a0 : Option Value) (x : Int32) (ls : mL) (st : List Value) (σ : mS) : ev 106 7 (a0 :: some (.int x) :: ls) st σ = ev 106 8 (a0 :: some (.int x) :: ls) (.int x :: st) σ := e_iload1 k106_7 rfl
theorem k106_8 : cod 106 8 = some (.invokevirtual 155, 3, 37, 1, 0, 3) := rfl
theorem e106_8 (t : Nat) (x0 : Int32) (ls : mL) (st : List Value) (σ : mS) (hm : mCat st ≤ 8) : ev 106 8 ls (.int x0 :: .ref t :: st) σ = isC (σ.1 t) 3 ((evM 37 [.ref t, .int x0] σ).bind fun z => ev 106 11 ls (z.1.toList ++ st) z.2) := e_callVK k106_8 (by decide) rfl ⟨hm, Nat.le_of_ble_eq_true rfl⟩
theorem k106_11 : cod 106 11 = some (.ifCond .eq (39), 3, 50, 0, 0, 0) := rfl
theorem e106_11 (x : Int32) (ls : mL) (st : List Value) (σ : mS) : ev 106 11 ls (.int x :: st) σ = if x = 0 then ev 106 50 ls st σ else ev 106 14 ls st σ := e_if_eq k106_11
theorem k106_14 : cod 106 14 = some (.iload_n 2, 1, 0, 0, 0, 0) := rfl
theorem e106_14 (a0 a1 : Option Value) (x : Int32) (ls : mL) (st : List Value) (σ : mS) : ev 106 14 (a0 :: a1 :: some (.int x) :: ls) st σ = ev 106 15 (a0 :: a1 :: some (.int x) :: ls) (.int x :: st) σ := e_iload1 k106_14 rfl
theorem k106_15 : cod 106 15 = some (.iconst 0, 1, 0, 0, 0, 0) := rfl
theorem e106_15 (ls : mL) (st : List Value) (σ : mS) : ev 106 15 ls st σ = ev 106 16 ls (.int 0 :: st) σ := e_iconst 0 k106_15 (by decide)
theorem k106_16 : cod 106 16 = some (.sipush (255), 3, 0, 0, 0, 0) := rfl
theorem e106_16 (ls : mL) (st : List Value) (σ : mS) : ev 106 16 ls st σ = ev 106 19 ls (.int 255 :: st) σ := e_sipush 255 k106_16 (by decide)
theorem k106_19 : cod 106 19 = some (.invokestatic 78, 3, 87, 3, 0, 0) := rfl
theorem e106_19 (x0 : Int32) (x1 : Int32) (x2 : Int32) (ls : mL) (st : List Value) (σ : mS) (hm : mCat st ≤ 8) : ev 106 19 ls (.int x2 :: .int x1 :: .int x0 :: st) σ = (evM 87 [.int x0, .int x1, .int x2] σ).bind fun z => ev 106 22 ls (z.1.toList ++ st) z.2 := e_callS k106_19 (by decide) rfl ⟨hm, Nat.le_of_ble_eq_true rfl⟩
theorem k106_22 : cod 106 22 = some (.ifCond .eq (28), 3, 50, 0, 0, 0) := rfl
theorem e106_22 (x : Int32) (ls : mL) (st : List Value) (σ : mS) : ev 106 22 ls (.int x :: st) σ = if x = 0 then ev 106 50 ls st σ else ev 106 25 ls st σ := e_if_eq k106_22
theorem k106_25 : cod 106 25 = some (.iload_n 3, 1, 0, 0, 0, 0) := rfl
theorem e106_25 (a0 a1 a2 : Option Value) (x : Int32) (ls : mL) (st : List Value) (σ : mS) : ev 106 25 (a0 :: a1 :: a2 :: some (.int x) :: ls) st σ = ev 106 26 (a0 :: a1 :: a2 :: some (.int x) :: ls) (.int x :: st) σ := e_iload1 k106_25 rfl
theorem k106_26 : cod 106 26 = some (.iconst 1, 1, 0, 0, 0, 0) := rfl
theorem e106_26 (ls : mL) (st : List Value) (σ : mS) : ev 106 26 ls st σ = ev 106 27 ls (.int 1 :: st) σ := e_iconst 1 k106_26 (by decide)
theorem k106_27 : cod 106 27 = some (.bipush (20), 2, 0, 0, 0, 0) := rfl
theorem e106_27 (ls : mL) (st : List Value) (σ : mS) : ev 106 27 ls st σ = ev 106 29 ls (.int 20 :: st) σ := e_bipush 20 k106_27 (by decide)
theorem k106_29 : cod 106 29 = some (.invokestatic 78, 3, 87, 3, 0, 0) := rfl
theorem e106_29 (x0 : Int32) (x1 : Int32) (x2 : Int32) (ls : mL) (st : List Value) (σ : mS) (hm : mCat st ≤ 8) : ev 106 29 ls (.int x2 :: .int x1 :: .int x0 :: st) σ = (evM 87 [.int x0, .int x1, .int x2] σ).bind fun z => ev 106 32 ls (z.1.toList ++ st) z.2 := e_callS k106_29 (by decide) rfl ⟨hm, Nat.le_of_ble_eq_true rfl⟩
theorem k106_32 : cod 106 32 = some (.ifCond .eq (18), 3, 50, 0, 0, 0) := rfl
theorem e106_32 (x : Int32) (ls : mL) (st : List Value) (σ : mS) : ev 106 32 ls (.int x :: st) σ = if x = 0 then ev 106 50 ls st σ else ev 106 35 ls st σ := e_if_eq k106_32
theorem k106_35 : cod 106 35 = some (.iload 4, 2, 0, 0, 0, 0) := rfl
theorem e106_35 (a0 a1 a2 a3 : Option Value) (x : Int32) (ls : mL) (st : List Value) (σ : mS) : ev 106 35 (a0 :: a1 :: a2 :: a3 :: some (.int x) :: ls) st σ = ev 106 37 (a0 :: a1 :: a2 :: a3 :: some (.int x) :: ls) (.int x :: st) σ := e_iload0 k106_35 rfl
theorem k106_37 : cod 106 37 = some (.iconst 0, 1, 0, 0, 0, 0) := rfl
theorem e106_37 (ls : mL) (st : List Value) (σ : mS) : ev 106 37 ls st σ = ev 106 38 ls (.int 0 :: st) σ := e_iconst 0 k106_37 (by decide)
theorem k106_38 : cod 106 38 = some (.bipush (100), 2, 0, 0, 0, 0) := rfl
theorem e106_38 (ls : mL) (st : List Value) (σ : mS) : ev 106 38 ls st σ = ev 106 40 ls (.int 100 :: st) σ := e_bipush 100 k106_38 (by decide)
theorem k106_40 : cod 106 40 = some (.invokestatic 78, 3, 87, 3, 0, 0) := rfl
theorem e106_40 (x0 : Int32) (x1 : Int32) (x2 : Int32) (ls : mL) (st : List Value) (σ : mS) (hm : mCat st ≤ 8) : ev 106 40 ls (.int x2 :: .int x1 :: .int x0 :: st) σ = (evM 87 [.int x0, .int x1, .int x2] σ).bind fun z => ev 106 43 ls (z.1.toList ++ st) z.2 := e_callS k106_40 (by decide) rfl ⟨hm, Nat.le_of_ble_eq_true rfl⟩
theorem k106_43 : cod 106 43 = some (.ifCond .eq (7), 3, 50, 0, 0, 0) := rfl
theorem e106_43 (x : Int32) (ls : mL) (st : List Value) (σ : mS) : ev 106 43 ls (.int x :: st) σ = if x = 0 then ev 106 50 ls st σ else ev 106 46 ls st σ := e_if_eq k106_43
theorem k106_46 : cod 106 46 = some (.iconst 1, 1, 0, 0, 0, 0) := rfl
theorem e106_46 (ls : mL) (st : List Value) (σ : mS) : ev 106 46 ls st σ = ev 106 47 ls (.int 1 :: st) σ := e_iconst 1 k106_46 (by decide)
theorem k106_47 : cod 106 47 = some (.goto (4), 3, 51, 0, 0, 0) := rfl
theorem e106_47 (ls : mL) (st : List Value) (σ : mS) : ev 106 47 ls st σ = ev 106 51 ls st σ := e_goto k106_47
theorem k106_50 : cod 106 50 = some (.iconst 0, 1, 0, 0, 0, 0) := rfl
theorem e106_50 (ls : mL) (st : List Value) (σ : mS) : ev 106 50 ls st σ = ev 106 51 ls (.int 0 :: st) σ := e_iconst 0 k106_50 (by decide)
theorem k106_51 : cod 106 51 = some (.ireturn, 1, 0, 0, 0, 0) := rfl
theorem e106_51 (x : Int32) (ls : mL) (σ : mS) : ev 106 51 ls [.int x] σ = if x = 0 ∨ x = 1 then some (some (.int x), σ) else none := e_zret k106_51 rfl
theorem e106_51b0 (ls : mL) (σ : mS) : ev 106 51 ls [.int 0] σ = some (some (.int 0), σ) := (e_zret k106_51 rfl).trans (if_pos (Or.inl rfl))
theorem e106_51b1 (ls : mL) (σ : mS) : ev 106 51 ls [.int 1] σ = some (some (.int 1), σ) := (e_zret k106_51 rfl).trans (if_pos (Or.inr rfl))
theorem m106 (t : Nat) (x0 : Int32) (x1 : Int32) (x2 : Int32) (x3 : Int32) (σ : mS) : evM 106 [.ref t, .int x0, .int x1, .int x2, .int x3] σ = ev 106 0 [some (.ref t), some (.int x0), some (.int x1), some (.int x2), some (.int x3)] [] σ := rfl
theorem k107_0 : cod 107 0 = some (.aload_n 0, 1, 0, 0, 0, 0) := rfl
theorem e107_0 (x : Nat) (ls : mL) (st : List Value) (σ : mS) : ev 107 0 (some (.ref x) :: ls) st σ = ev 107 1 (some (.ref x) :: ls) (.ref x :: st) σ := e_aload1 k107_0 rfl
theorem k107_1 : cod 107 1 = some (.getfield 36, 3, 7, 4, 0, 3) := rfl
theorem e107_1 (t : Nat) (ls : mL) (st : List Value) (σ : mS) : ev 107 1 ls (.ref t :: st) σ = gfK (σ.1 t) 7 4 (fun v => ev 107 4 ls (v :: st) σ) := e_getf k107_1
theorem k107_4 : cod 107 4 = some (.getfield 185, 3, 0, 2, 1, 3) := rfl
theorem e107_4 (t : Nat) (ls : mL) (st : List Value) (σ : mS) : ev 107 4 ls (.ref t :: st) σ = gfK (σ.1 t) 0 2 (fun v => ev 107 7 ls (v :: st) σ) := e_getf k107_4
theorem k107_7 : cod 107 7 = some (.iload_n 1, 1, 0, 0, 0, 0) := rfl
theorem e107_7 (a0 : Option Value) (x : Int32) (ls : mL) (st : List Value) (σ : mS) : ev 107 7 (a0 :: some (.int x) :: ls) st σ = ev 107 8 (a0 :: some (.int x) :: ls) (.int x :: st) σ := e_iload1 k107_7 rfl
theorem k107_8 : cod 107 8 = some (.invokevirtual 155, 3, 37, 1, 0, 3) := rfl
theorem e107_8 (t : Nat) (x0 : Int32) (ls : mL) (st : List Value) (σ : mS) (hm : mCat st ≤ 8) : ev 107 8 ls (.int x0 :: .ref t :: st) σ = isC (σ.1 t) 3 ((evM 37 [.ref t, .int x0] σ).bind fun z => ev 107 11 ls (z.1.toList ++ st) z.2) := e_callVK k107_8 (by decide) rfl ⟨hm, Nat.le_of_ble_eq_true rfl⟩
theorem k107_11 : cod 107 11 = some (.ifCond .eq (16), 3, 27, 0, 0, 0) := rfl
theorem e107_11 (x : Int32) (ls : mL) (st : List Value) (σ : mS) : ev 107 11 ls (.int x :: st) σ = if x = 0 then ev 107 27 ls st σ else ev 107 14 ls st σ := e_if_eq k107_11
theorem k107_14 : cod 107 14 = some (.aload_n 0, 1, 0, 0, 0, 0) := rfl
theorem e107_14 (x : Nat) (ls : mL) (st : List Value) (σ : mS) : ev 107 14 (some (.ref x) :: ls) st σ = ev 107 15 (some (.ref x) :: ls) (.ref x :: st) σ := e_aload1 k107_14 rfl
theorem k107_15 : cod 107 15 = some (.iload_n 2, 1, 0, 0, 0, 0) := rfl
theorem e107_15 (a0 a1 : Option Value) (x : Int32) (ls : mL) (st : List Value) (σ : mS) : ev 107 15 (a0 :: a1 :: some (.int x) :: ls) st σ = ev 107 16 (a0 :: a1 :: some (.int x) :: ls) (.int x :: st) σ := e_iload1 k107_15 rfl
theorem k107_16 : cod 107 16 = some (.iload_n 3, 1, 0, 0, 0, 0) := rfl
theorem e107_16 (a0 a1 a2 : Option Value) (x : Int32) (ls : mL) (st : List Value) (σ : mS) : ev 107 16 (a0 :: a1 :: a2 :: some (.int x) :: ls) st σ = ev 107 17 (a0 :: a1 :: a2 :: some (.int x) :: ls) (.int x :: st) σ := e_iload1 k107_16 rfl
theorem k107_17 : cod 107 17 = some (.iload 4, 2, 0, 0, 0, 0) := rfl
theorem e107_17 (a0 a1 a2 a3 : Option Value) (x : Int32) (ls : mL) (st : List Value) (σ : mS) : ev 107 17 (a0 :: a1 :: a2 :: a3 :: some (.int x) :: ls) st σ = ev 107 19 (a0 :: a1 :: a2 :: a3 :: some (.int x) :: ls) (.int x :: st) σ := e_iload0 k107_17 rfl
theorem k107_19 : cod 107 19 = some (.iload 5, 2, 0, 0, 0, 0) := rfl
theorem e107_19 (a0 a1 a2 a3 a4 : Option Value) (x : Int32) (ls : mL) (st : List Value) (σ : mS) : ev 107 19 (a0 :: a1 :: a2 :: a3 :: a4 :: some (.int x) :: ls) st σ = ev 107 21 (a0 :: a1 :: a2 :: a3 :: a4 :: some (.int x) :: ls) (.int x :: st) σ := e_iload0 k107_19 rfl
theorem k107_21 : cod 107 21 = some (.invokevirtual 170, 3, 106, 4, 0, 7) := rfl
theorem e107_21 (t : Nat) (x0 : Int32) (x1 : Int32) (x2 : Int32) (x3 : Int32) (ls : mL) (st : List Value) (σ : mS) (hm : mCat st ≤ 8) : ev 107 21 ls (.int x3 :: .int x2 :: .int x1 :: .int x0 :: .ref t :: st) σ = isC (σ.1 t) 7 ((evM 106 [.ref t, .int x0, .int x1, .int x2, .int x3] σ).bind fun z => ev 107 24 ls (z.1.toList ++ st) z.2) := e_callVK k107_21 (by decide) rfl ⟨hm, Nat.le_of_ble_eq_true rfl⟩
theorem k107_24 : cod 107 24 = some (.ifCond .ne (5), 3, 29, 0, 0, 0) := rfl
theorem e107_24 (x : Int32) (ls : mL) (st : List Value) (σ : mS) : ev 107 24 ls (.int x :: st) σ = if x = 0 then ev 107 27 ls st σ else ev 107 29 ls st σ := e_if_ne k107_24
theorem k107_27 : cod 107 27 = some (.iconst (-1), 1, 0, 0, 0, 0) := rfl
theorem e107_27 (ls : mL) (st : List Value) (σ : mS) : ev 107 27 ls st σ = ev 107 28 ls (.int (-1) :: st) σ := e_iconst (-1) k107_27 (by decide)
theorem k107_28 : cod 107 28 = some (.ireturn, 1, 0, 0, 0, 0) := rfl
theorem e107_28 (x : Int32) (ls : mL) (σ : mS) : ev 107 28 ls [.int x] σ = some (some (.int x), σ) := e_iret k107_28 rfl
theorem k107_29 : cod 107 29 = some (.aload_n 0, 1, 0, 0, 0, 0) := rfl
theorem e107_29 (x : Nat) (ls : mL) (st : List Value) (σ : mS) : ev 107 29 (some (.ref x) :: ls) st σ = ev 107 30 (some (.ref x) :: ls) (.ref x :: st) σ := e_aload1 k107_29 rfl
theorem k107_30 : cod 107 30 = some (.getfield 36, 3, 7, 4, 0, 3) := rfl
theorem e107_30 (t : Nat) (ls : mL) (st : List Value) (σ : mS) : ev 107 30 ls (.ref t :: st) σ = gfK (σ.1 t) 7 4 (fun v => ev 107 33 ls (v :: st) σ) := e_getf k107_30
theorem k107_33 : cod 107 33 = some (.iload_n 1, 1, 0, 0, 0, 0) := rfl
theorem e107_33 (a0 : Option Value) (x : Int32) (ls : mL) (st : List Value) (σ : mS) : ev 107 33 (a0 :: some (.int x) :: ls) st σ = ev 107 34 (a0 :: some (.int x) :: ls) (.int x :: st) σ := e_iload1 k107_33 rfl
theorem k107_34 : cod 107 34 = some (.invokevirtual 188, 3, 5, 1, 0, 0) := rfl
theorem e107_34 (t : Nat) (x0 : Int32) (ls : mL) (st : List Value) (σ : mS) (hm : mCat st ≤ 8) : ev 107 34 ls (.int x0 :: .ref t :: st) σ = isC (σ.1 t) 0 ((evM 5 [.ref t, .int x0] σ).bind fun z => ev 107 37 ls (z.1.toList ++ st) z.2) := e_callVK k107_34 (by decide) rfl ⟨hm, Nat.le_of_ble_eq_true rfl⟩
theorem k107_37 : cod 107 37 = some (.ifCond .eq (35), 3, 72, 0, 0, 0) := rfl
theorem e107_37 (x : Int32) (ls : mL) (st : List Value) (σ : mS) : ev 107 37 ls (.int x :: st) σ = if x = 0 then ev 107 72 ls st σ else ev 107 40 ls st σ := e_if_eq k107_37
theorem k107_40 : cod 107 40 = some (.aload_n 0, 1, 0, 0, 0, 0) := rfl
theorem e107_40 (x : Nat) (ls : mL) (st : List Value) (σ : mS) : ev 107 40 (some (.ref x) :: ls) st σ = ev 107 41 (some (.ref x) :: ls) (.ref x :: st) σ := e_aload1 k107_40 rfl
theorem k107_41 : cod 107 41 = some (.getfield 36, 3, 7, 4, 0, 3) := rfl
theorem e107_41 (t : Nat) (ls : mL) (st : List Value) (σ : mS) : ev 107 41 ls (.ref t :: st) σ = gfK (σ.1 t) 7 4 (fun v => ev 107 44 ls (v :: st) σ) := e_getf k107_41
theorem k107_44 : cod 107 44 = some (.getfield 185, 3, 0, 2, 1, 3) := rfl
theorem e107_44 (t : Nat) (ls : mL) (st : List Value) (σ : mS) : ev 107 44 ls (.ref t :: st) σ = gfK (σ.1 t) 0 2 (fun v => ev 107 47 ls (v :: st) σ) := e_getf k107_44
theorem k107_47 : cod 107 47 = some (.iload_n 1, 1, 0, 0, 0, 0) := rfl
theorem e107_47 (a0 : Option Value) (x : Int32) (ls : mL) (st : List Value) (σ : mS) : ev 107 47 (a0 :: some (.int x) :: ls) st σ = ev 107 48 (a0 :: some (.int x) :: ls) (.int x :: st) σ := e_iload1 k107_47 rfl
theorem k107_48 : cod 107 48 = some (.iconst 0, 1, 0, 0, 0, 0) := rfl
theorem e107_48 (ls : mL) (st : List Value) (σ : mS) : ev 107 48 ls st σ = ev 107 49 ls (.int 0 :: st) σ := e_iconst 0 k107_48 (by decide)
theorem k107_49 : cod 107 49 = some (.invokevirtual 160, 3, 38, 2, 0, 3) := rfl
theorem e107_49 (t : Nat) (x0 : Int32) (x1 : Int32) (ls : mL) (st : List Value) (σ : mS) (hm : mCat st ≤ 8) : ev 107 49 ls (.int x1 :: .int x0 :: .ref t :: st) σ = isC (σ.1 t) 3 ((evM 38 [.ref t, .int x0, .int x1] σ).bind fun z => ev 107 52 ls (z.1.toList ++ st) z.2) := e_callVK k107_49 (by decide) rfl ⟨hm, Nat.le_of_ble_eq_true rfl⟩
theorem k107_52 : cod 107 52 = some (.iload_n 2, 1, 0, 0, 0, 0) := rfl
theorem e107_52 (a0 a1 : Option Value) (x : Int32) (ls : mL) (st : List Value) (σ : mS) : ev 107 52 (a0 :: a1 :: some (.int x) :: ls) st σ = ev 107 53 (a0 :: a1 :: some (.int x) :: ls) (.int x :: st) σ := e_iload1 k107_52 rfl
theorem k107_53 : cod 107 53 = some (.if_icmp .eq (19), 3, 72, 0, 0, 0) := rfl
theorem e107_53 (x y : Int32) (ls : mL) (st : List Value) (σ : mS) : ev 107 53 ls (.int y :: .int x :: st) σ = if x = y then ev 107 72 ls st σ else ev 107 56 ls st σ := e_ic_eq k107_53
theorem k107_56 : cod 107 56 = some (.aload_n 0, 1, 0, 0, 0, 0) := rfl
theorem e107_56 (x : Nat) (ls : mL) (st : List Value) (σ : mS) : ev 107 56 (some (.ref x) :: ls) st σ = ev 107 57 (some (.ref x) :: ls) (.ref x :: st) σ := e_aload1 k107_56 rfl
theorem k107_57 : cod 107 57 = some (.getfield 36, 3, 7, 4, 0, 3) := rfl
theorem e107_57 (t : Nat) (ls : mL) (st : List Value) (σ : mS) : ev 107 57 ls (.ref t :: st) σ = gfK (σ.1 t) 7 4 (fun v => ev 107 60 ls (v :: st) σ) := e_getf k107_57
theorem k107_60 : cod 107 60 = some (.iload_n 1, 1, 0, 0, 0, 0) := rfl
theorem e107_60 (a0 : Option Value) (x : Int32) (ls : mL) (st : List Value) (σ : mS) : ev 107 60 (a0 :: some (.int x) :: ls) st σ = ev 107 61 (a0 :: some (.int x) :: ls) (.int x :: st) σ := e_iload1 k107_60 rfl
theorem k107_61 : cod 107 61 = some (.iload_n 3, 1, 0, 0, 0, 0) := rfl
theorem e107_61 (a0 a1 a2 : Option Value) (x : Int32) (ls : mL) (st : List Value) (σ : mS) : ev 107 61 (a0 :: a1 :: a2 :: some (.int x) :: ls) st σ = ev 107 62 (a0 :: a1 :: a2 :: some (.int x) :: ls) (.int x :: st) σ := e_iload1 k107_61 rfl
theorem k107_62 : cod 107 62 = some (.iload 4, 2, 0, 0, 0, 0) := rfl
theorem e107_62 (a0 a1 a2 a3 : Option Value) (x : Int32) (ls : mL) (st : List Value) (σ : mS) : ev 107 62 (a0 :: a1 :: a2 :: a3 :: some (.int x) :: ls) st σ = ev 107 64 (a0 :: a1 :: a2 :: a3 :: some (.int x) :: ls) (.int x :: st) σ := e_iload0 k107_62 rfl
theorem k107_64 : cod 107 64 = some (.iload 5, 2, 0, 0, 0, 0) := rfl
theorem e107_64 (a0 a1 a2 a3 a4 : Option Value) (x : Int32) (ls : mL) (st : List Value) (σ : mS) : ev 107 64 (a0 :: a1 :: a2 :: a3 :: a4 :: some (.int x) :: ls) st σ = ev 107 66 (a0 :: a1 :: a2 :: a3 :: a4 :: some (.int x) :: ls) (.int x :: st) σ := e_iload0 k107_64 rfl
theorem k107_66 : cod 107 66 = some (.invokevirtual 191, 3, 7, 4, 0, 0) := rfl
theorem e107_66 (t : Nat) (x0 : Int32) (x1 : Int32) (x2 : Int32) (x3 : Int32) (ls : mL) (st : List Value) (σ : mS) (hm : mCat st ≤ 8) : ev 107 66 ls (.int x3 :: .int x2 :: .int x1 :: .int x0 :: .ref t :: st) σ = isC (σ.1 t) 0 ((evM 7 [.ref t, .int x0, .int x1, .int x2, .int x3] σ).bind fun z => ev 107 69 ls (z.1.toList ++ st) z.2) := e_callVK k107_66 (by decide) rfl ⟨hm, Nat.le_of_ble_eq_true rfl⟩
theorem k107_69 : cod 107 69 = some (.ifCond .ne (6), 3, 75, 0, 0, 0) := rfl
theorem e107_69 (x : Int32) (ls : mL) (st : List Value) (σ : mS) : ev 107 69 ls (.int x :: st) σ = if x = 0 then ev 107 72 ls st σ else ev 107 75 ls st σ := e_if_ne k107_69
theorem k107_72 : cod 107 72 = some (.bipush (-2), 2, 0, 0, 0, 0) := rfl
theorem e107_72 (ls : mL) (st : List Value) (σ : mS) : ev 107 72 ls st σ = ev 107 74 ls (.int (-2) :: st) σ := e_bipush (-2) k107_72 (by decide)
theorem k107_74 : cod 107 74 = some (.ireturn, 1, 0, 0, 0, 0) := rfl
theorem e107_74 (x : Int32) (ls : mL) (σ : mS) : ev 107 74 ls [.int x] σ = some (some (.int x), σ) := e_iret k107_74 rfl
theorem k107_75 : cod 107 75 = some (.aload_n 0, 1, 0, 0, 0, 0) := rfl
theorem e107_75 (x : Nat) (ls : mL) (st : List Value) (σ : mS) : ev 107 75 (some (.ref x) :: ls) st σ = ev 107 76 (some (.ref x) :: ls) (.ref x :: st) σ := e_aload1 k107_75 rfl
theorem k107_76 : cod 107 76 = some (.getfield 36, 3, 7, 4, 0, 3) := rfl
theorem e107_76 (t : Nat) (ls : mL) (st : List Value) (σ : mS) : ev 107 76 ls (.ref t :: st) σ = gfK (σ.1 t) 7 4 (fun v => ev 107 79 ls (v :: st) σ) := e_getf k107_76
theorem k107_79 : cod 107 79 = some (.iload_n 2, 1, 0, 0, 0, 0) := rfl
theorem e107_79 (a0 a1 : Option Value) (x : Int32) (ls : mL) (st : List Value) (σ : mS) : ev 107 79 (a0 :: a1 :: some (.int x) :: ls) st σ = ev 107 80 (a0 :: a1 :: some (.int x) :: ls) (.int x :: st) σ := e_iload1 k107_79 rfl
theorem k107_80 : cod 107 80 = some (.iload_n 3, 1, 0, 0, 0, 0) := rfl
theorem e107_80 (a0 a1 a2 : Option Value) (x : Int32) (ls : mL) (st : List Value) (σ : mS) : ev 107 80 (a0 :: a1 :: a2 :: some (.int x) :: ls) st σ = ev 107 81 (a0 :: a1 :: a2 :: some (.int x) :: ls) (.int x :: st) σ := e_iload1 k107_80 rfl
theorem k107_81 : cod 107 81 = some (.iload 4, 2, 0, 0, 0, 0) := rfl
theorem e107_81 (a0 a1 a2 a3 : Option Value) (x : Int32) (ls : mL) (st : List Value) (σ : mS) : ev 107 81 (a0 :: a1 :: a2 :: a3 :: some (.int x) :: ls) st σ = ev 107 83 (a0 :: a1 :: a2 :: a3 :: some (.int x) :: ls) (.int x :: st) σ := e_iload0 k107_81 rfl
theorem k107_83 : cod 107 83 = some (.iload 5, 2, 0, 0, 0, 0) := rfl
theorem e107_83 (a0 a1 a2 a3 a4 : Option Value) (x : Int32) (ls : mL) (st : List Value) (σ : mS) : ev 107 83 (a0 :: a1 :: a2 :: a3 :: a4 :: some (.int x) :: ls) st σ = ev 107 85 (a0 :: a1 :: a2 :: a3 :: a4 :: some (.int x) :: ls) (.int x :: st) σ := e_iload0 k107_83 rfl
theorem k107_85 : cod 107 85 = some (.invokevirtual 181, 3, 4, 4, 0, 0) := rfl
theorem e107_85 (t : Nat) (x0 : Int32) (x1 : Int32) (x2 : Int32) (x3 : Int32) (ls : mL) (st : List Value) (σ : mS) (hm : mCat st ≤ 8) : ev 107 85 ls (.int x3 :: .int x2 :: .int x1 :: .int x0 :: .ref t :: st) σ = isC (σ.1 t) 0 ((evM 4 [.ref t, .int x0, .int x1, .int x2, .int x3] σ).bind fun z => ev 107 88 ls (z.1.toList ++ st) z.2) := e_callVK k107_85 (by decide) rfl ⟨hm, Nat.le_of_ble_eq_true rfl⟩
theorem k107_88 : cod 107 88 = some (.istore 6, 2, 0, 0, 0, 0) := rfl
theorem e107_88i (a0 a1 a2 a3 a4 : Option Value) (y : Int32) (o : Option Value) (x : Int32) (ls : mL) (st : List Value) (σ : mS) : ev 107 88 (a0 :: a1 :: a2 :: a3 :: a4 :: some (.int y) :: o :: ls) (.int x :: st) σ = ev 107 90 (a0 :: a1 :: a2 :: a3 :: a4 :: some (.int y) :: some (.int x) :: ls) st σ := e_istore0 k107_88 (Nat.le_add_left 7 ls.length)
theorem e107_88n (a0 a1 a2 a3 a4 : Option Value) (o : Option Value) (x : Int32) (ls : mL) (st : List Value) (σ : mS) : ev 107 88 (a0 :: a1 :: a2 :: a3 :: a4 :: none :: o :: ls) (.int x :: st) σ = ev 107 90 (a0 :: a1 :: a2 :: a3 :: a4 :: none :: some (.int x) :: ls) st σ := e_istore0 k107_88 (Nat.le_add_left 7 ls.length)
theorem e107_88r (a0 a1 a2 a3 a4 : Option Value) (y : Nat) (o : Option Value) (x : Int32) (ls : mL) (st : List Value) (σ : mS) : ev 107 88 (a0 :: a1 :: a2 :: a3 :: a4 :: some (.ref y) :: o :: ls) (.int x :: st) σ = ev 107 90 (a0 :: a1 :: a2 :: a3 :: a4 :: some (.ref y) :: some (.int x) :: ls) st σ := e_istore0 k107_88 (Nat.le_add_left 7 ls.length)
theorem k107_90 : cod 107 90 = some (.iload 6, 2, 0, 0, 0, 0) := rfl
theorem e107_90 (a0 a1 a2 a3 a4 a5 : Option Value) (x : Int32) (ls : mL) (st : List Value) (σ : mS) : ev 107 90 (a0 :: a1 :: a2 :: a3 :: a4 :: a5 :: some (.int x) :: ls) st σ = ev 107 92 (a0 :: a1 :: a2 :: a3 :: a4 :: a5 :: some (.int x) :: ls) (.int x :: st) σ := e_iload0 k107_90 rfl
theorem k107_92 : cod 107 92 = some (.ifCond .ge (6), 3, 98, 0, 0, 0) := rfl
theorem e107_92 (x : Int32) (ls : mL) (st : List Value) (σ : mS) : ev 107 92 ls (.int x :: st) σ = if 0 ≤ x then ev 107 98 ls st σ else ev 107 95 ls st σ := e_if_ge k107_92
theorem k107_95 : cod 107 95 = some (.bipush (-3), 2, 0, 0, 0, 0) := rfl
theorem e107_95 (ls : mL) (st : List Value) (σ : mS) : ev 107 95 ls st σ = ev 107 97 ls (.int (-3) :: st) σ := e_bipush (-3) k107_95 (by decide)
theorem k107_97 : cod 107 97 = some (.ireturn, 1, 0, 0, 0, 0) := rfl
theorem e107_97 (x : Int32) (ls : mL) (σ : mS) : ev 107 97 ls [.int x] σ = some (some (.int x), σ) := e_iret k107_97 rfl
theorem k107_98 : cod 107 98 = some (.aload_n 0, 1, 0, 0, 0, 0) := rfl
theorem e107_98 (x : Nat) (ls : mL) (st : List Value) (σ : mS) : ev 107 98 (some (.ref x) :: ls) st σ = ev 107 99 (some (.ref x) :: ls) (.ref x :: st) σ := e_aload1 k107_98 rfl
theorem k107_99 : cod 107 99 = some (.getfield 36, 3, 7, 4, 0, 3) := rfl
theorem e107_99 (t : Nat) (ls : mL) (st : List Value) (σ : mS) : ev 107 99 ls (.ref t :: st) σ = gfK (σ.1 t) 7 4 (fun v => ev 107 102 ls (v :: st) σ) := e_getf k107_99
theorem k107_102 : cod 107 102 = some (.getfield 185, 3, 0, 2, 1, 3) := rfl
theorem e107_102 (t : Nat) (ls : mL) (st : List Value) (σ : mS) : ev 107 102 ls (.ref t :: st) σ = gfK (σ.1 t) 0 2 (fun v => ev 107 105 ls (v :: st) σ) := e_getf k107_102
theorem k107_105 : cod 107 105 = some (.iload 6, 2, 0, 0, 0, 0) := rfl
theorem e107_105 (a0 a1 a2 a3 a4 a5 : Option Value) (x : Int32) (ls : mL) (st : List Value) (σ : mS) : ev 107 105 (a0 :: a1 :: a2 :: a3 :: a4 :: a5 :: some (.int x) :: ls) st σ = ev 107 107 (a0 :: a1 :: a2 :: a3 :: a4 :: a5 :: some (.int x) :: ls) (.int x :: st) σ := e_iload0 k107_105 rfl
theorem k107_107 : cod 107 107 = some (.iconst 4, 1, 0, 0, 0, 0) := rfl
theorem e107_107 (ls : mL) (st : List Value) (σ : mS) : ev 107 107 ls st σ = ev 107 108 ls (.int 4 :: st) σ := e_iconst 4 k107_107 (by decide)
theorem k107_108 : cod 107 108 = some (.iload_n 1, 1, 0, 0, 0, 0) := rfl
theorem e107_108 (a0 : Option Value) (x : Int32) (ls : mL) (st : List Value) (σ : mS) : ev 107 108 (a0 :: some (.int x) :: ls) st σ = ev 107 109 (a0 :: some (.int x) :: ls) (.int x :: st) σ := e_iload1 k107_108 rfl
theorem k107_109 : cod 107 109 = some (.invokevirtual 163, 3, 35, 3, 0, 3) := rfl
theorem e107_109 (t : Nat) (x0 : Int32) (x1 : Int32) (x2 : Int32) (ls : mL) (st : List Value) (σ : mS) (hm : mCat st ≤ 8) : ev 107 109 ls (.int x2 :: .int x1 :: .int x0 :: .ref t :: st) σ = isC (σ.1 t) 3 ((evM 35 [.ref t, .int x0, .int x1, .int x2] σ).bind fun z => ev 107 112 ls (z.1.toList ++ st) z.2) := e_callVK k107_109 (by decide) rfl ⟨hm, Nat.le_of_ble_eq_true rfl⟩
theorem k107_112 : cod 107 112 = some (.aload_n 0, 1, 0, 0, 0, 0) := rfl
theorem e107_112 (x : Nat) (ls : mL) (st : List Value) (σ : mS) : ev 107 112 (some (.ref x) :: ls) st σ = ev 107 113 (some (.ref x) :: ls) (.ref x :: st) σ := e_aload1 k107_112 rfl
theorem k107_113 : cod 107 113 = some (.getfield 36, 3, 7, 4, 0, 3) := rfl
theorem e107_113 (t : Nat) (ls : mL) (st : List Value) (σ : mS) : ev 107 113 ls (.ref t :: st) σ = gfK (σ.1 t) 7 4 (fun v => ev 107 116 ls (v :: st) σ) := e_getf k107_113
theorem k107_116 : cod 107 116 = some (.getfield 185, 3, 0, 2, 1, 3) := rfl
theorem e107_116 (t : Nat) (ls : mL) (st : List Value) (σ : mS) : ev 107 116 ls (.ref t :: st) σ = gfK (σ.1 t) 0 2 (fun v => ev 107 119 ls (v :: st) σ) := e_getf k107_116
theorem k107_119 : cod 107 119 = some (.iload 6, 2, 0, 0, 0, 0) := rfl
theorem e107_119 (a0 a1 a2 a3 a4 a5 : Option Value) (x : Int32) (ls : mL) (st : List Value) (σ : mS) : ev 107 119 (a0 :: a1 :: a2 :: a3 :: a4 :: a5 :: some (.int x) :: ls) st σ = ev 107 121 (a0 :: a1 :: a2 :: a3 :: a4 :: a5 :: some (.int x) :: ls) (.int x :: st) σ := e_iload0 k107_119 rfl
theorem k107_121 : cod 107 121 = some (.iconst 5, 1, 0, 0, 0, 0) := rfl
theorem e107_121 (ls : mL) (st : List Value) (σ : mS) : ev 107 121 ls st σ = ev 107 122 ls (.int 5 :: st) σ := e_iconst 5 k107_121 (by decide)
theorem k107_122 : cod 107 122 = some (.aload_n 0, 1, 0, 0, 0, 0) := rfl
theorem e107_122 (x : Nat) (ls : mL) (st : List Value) (σ : mS) : ev 107 122 (some (.ref x) :: ls) st σ = ev 107 123 (some (.ref x) :: ls) (.ref x :: st) σ := e_aload1 k107_122 rfl
theorem k107_123 : cod 107 123 = some (.getfield 36, 3, 7, 4, 0, 3) := rfl
theorem e107_123 (t : Nat) (ls : mL) (st : List Value) (σ : mS) : ev 107 123 ls (.ref t :: st) σ = gfK (σ.1 t) 7 4 (fun v => ev 107 126 ls (v :: st) σ) := e_getf k107_123
theorem k107_126 : cod 107 126 = some (.getfield 185, 3, 0, 2, 1, 3) := rfl
theorem e107_126 (t : Nat) (ls : mL) (st : List Value) (σ : mS) : ev 107 126 ls (.ref t :: st) σ = gfK (σ.1 t) 0 2 (fun v => ev 107 129 ls (v :: st) σ) := e_getf k107_126
theorem k107_129 : cod 107 129 = some (.iload_n 1, 1, 0, 0, 0, 0) := rfl
theorem e107_129 (a0 : Option Value) (x : Int32) (ls : mL) (st : List Value) (σ : mS) : ev 107 129 (a0 :: some (.int x) :: ls) st σ = ev 107 130 (a0 :: some (.int x) :: ls) (.int x :: st) σ := e_iload1 k107_129 rfl
theorem k107_130 : cod 107 130 = some (.iconst 5, 1, 0, 0, 0, 0) := rfl
theorem e107_130 (ls : mL) (st : List Value) (σ : mS) : ev 107 130 ls st σ = ev 107 131 ls (.int 5 :: st) σ := e_iconst 5 k107_130 (by decide)
theorem k107_131 : cod 107 131 = some (.invokevirtual 160, 3, 38, 2, 0, 3) := rfl
theorem e107_131 (t : Nat) (x0 : Int32) (x1 : Int32) (ls : mL) (st : List Value) (σ : mS) (hm : mCat st ≤ 8) : ev 107 131 ls (.int x1 :: .int x0 :: .ref t :: st) σ = isC (σ.1 t) 3 ((evM 38 [.ref t, .int x0, .int x1] σ).bind fun z => ev 107 134 ls (z.1.toList ++ st) z.2) := e_callVK k107_131 (by decide) rfl ⟨hm, Nat.le_of_ble_eq_true rfl⟩
theorem k107_134 : cod 107 134 = some (.invokevirtual 163, 3, 35, 3, 0, 3) := rfl
theorem e107_134 (t : Nat) (x0 : Int32) (x1 : Int32) (x2 : Int32) (ls : mL) (st : List Value) (σ : mS) (hm : mCat st ≤ 8) : ev 107 134 ls (.int x2 :: .int x1 :: .int x0 :: .ref t :: st) σ = isC (σ.1 t) 3 ((evM 35 [.ref t, .int x0, .int x1, .int x2] σ).bind fun z => ev 107 137 ls (z.1.toList ++ st) z.2) := e_callVK k107_134 (by decide) rfl ⟨hm, Nat.le_of_ble_eq_true rfl⟩
theorem k107_137 : cod 107 137 = some (.iload 6, 2, 0, 0, 0, 0) := rfl
theorem e107_137 (a0 a1 a2 a3 a4 a5 : Option Value) (x : Int32) (ls : mL) (st : List Value) (σ : mS) : ev 107 137 (a0 :: a1 :: a2 :: a3 :: a4 :: a5 :: some (.int x) :: ls) st σ = ev 107 139 (a0 :: a1 :: a2 :: a3 :: a4 :: a5 :: some (.int x) :: ls) (.int x :: st) σ := e_iload0 k107_137 rfl
theorem k107_139 : cod 107 139 = some (.ireturn, 1, 0, 0, 0, 0) := rfl
theorem e107_139 (x : Int32) (ls : mL) (σ : mS) : ev 107 139 ls [.int x] σ = some (some (.int x), σ) := e_iret k107_139 rfl
theorem m107 (t : Nat) (x0 : Int32) (x1 : Int32) (x2 : Int32) (x3 : Int32) (x4 : Int32) (σ : mS) : evM 107 [.ref t, .int x0, .int x1, .int x2, .int x3, .int x4] σ = ev 107 0 [some (.ref t), some (.int x0), some (.int x1), some (.int x2), some (.int x3), some (.int x4), none] [] σ := rfl
theorem k108_0 : cod 108 0 = some (.aload_n 0, 1, 0, 0, 0, 0) := rfl
theorem e108_0 (x : Nat) (ls : mL) (st : List Value) (σ : mS) : ev 108 0 (some (.ref x) :: ls) st σ = ev 108 1 (some (.ref x) :: ls) (.ref x :: st) σ := e_aload1 k108_0 rfl
theorem k108_1 : cod 108 1 = some (.getfield 36, 3, 7, 4, 0, 3) := rfl
theorem e108_1 (t : Nat) (ls : mL) (st : List Value) (σ : mS) : ev 108 1 ls (.ref t :: st) σ = gfK (σ.1 t) 7 4 (fun v => ev 108 4 ls (v :: st) σ) := e_getf k108_1
theorem k108_4 : cod 108 4 = some (.getfield 185, 3, 0, 2, 1, 3) := rfl
theorem e108_4 (t : Nat) (ls : mL) (st : List Value) (σ : mS) : ev 108 4 ls (.ref t :: st) σ = gfK (σ.1 t) 0 2 (fun v => ev 108 7 ls (v :: st) σ) := e_getf k108_4
theorem k108_7 : cod 108 7 = some (.iload_n 1, 1, 0, 0, 0, 0) := rfl
theorem e108_7 (a0 : Option Value) (x : Int32) (ls : mL) (st : List Value) (σ : mS) : ev 108 7 (a0 :: some (.int x) :: ls) st σ = ev 108 8 (a0 :: some (.int x) :: ls) (.int x :: st) σ := e_iload1 k108_7 rfl
theorem k108_8 : cod 108 8 = some (.invokevirtual 155, 3, 37, 1, 0, 3) := rfl
theorem e108_8 (t : Nat) (x0 : Int32) (ls : mL) (st : List Value) (σ : mS) (hm : mCat st ≤ 8) : ev 108 8 ls (.int x0 :: .ref t :: st) σ = isC (σ.1 t) 3 ((evM 37 [.ref t, .int x0] σ).bind fun z => ev 108 11 ls (z.1.toList ++ st) z.2) := e_callVK k108_8 (by decide) rfl ⟨hm, Nat.le_of_ble_eq_true rfl⟩
theorem k108_11 : cod 108 11 = some (.ifCond .ne (5), 3, 16, 0, 0, 0) := rfl
theorem e108_11 (x : Int32) (ls : mL) (st : List Value) (σ : mS) : ev 108 11 ls (.int x :: st) σ = if x = 0 then ev 108 14 ls st σ else ev 108 16 ls st σ := e_if_ne k108_11
theorem k108_14 : cod 108 14 = some (.iconst (-1), 1, 0, 0, 0, 0) := rfl
theorem e108_14 (ls : mL) (st : List Value) (σ : mS) : ev 108 14 ls st σ = ev 108 15 ls (.int (-1) :: st) σ := e_iconst (-1) k108_14 (by decide)
theorem k108_15 : cod 108 15 = some (.ireturn, 1, 0, 0, 0, 0) := rfl
theorem e108_15 (x : Int32) (ls : mL) (σ : mS) : ev 108 15 ls [.int x] σ = some (some (.int x), σ) := e_iret k108_15 rfl
theorem k108_16 : cod 108 16 = some (.aload_n 0, 1, 0, 0, 0, 0) := rfl
theorem e108_16 (x : Nat) (ls : mL) (st : List Value) (σ : mS) : ev 108 16 (some (.ref x) :: ls) st σ = ev 108 17 (some (.ref x) :: ls) (.ref x :: st) σ := e_aload1 k108_16 rfl
theorem k108_17 : cod 108 17 = some (.getfield 36, 3, 7, 4, 0, 3) := rfl
theorem e108_17 (t : Nat) (ls : mL) (st : List Value) (σ : mS) : ev 108 17 ls (.ref t :: st) σ = gfK (σ.1 t) 7 4 (fun v => ev 108 20 ls (v :: st) σ) := e_getf k108_17
theorem k108_20 : cod 108 20 = some (.iload_n 1, 1, 0, 0, 0, 0) := rfl
theorem e108_20 (a0 : Option Value) (x : Int32) (ls : mL) (st : List Value) (σ : mS) : ev 108 20 (a0 :: some (.int x) :: ls) st σ = ev 108 21 (a0 :: some (.int x) :: ls) (.int x :: st) σ := e_iload1 k108_20 rfl
theorem k108_21 : cod 108 21 = some (.invokevirtual 194, 3, 6, 1, 0, 0) := rfl
theorem e108_21 (t : Nat) (x0 : Int32) (ls : mL) (st : List Value) (σ : mS) (hm : mCat st ≤ 8) : ev 108 21 ls (.int x0 :: .ref t :: st) σ = isC (σ.1 t) 0 ((evM 6 [.ref t, .int x0] σ).bind fun z => ev 108 24 ls (z.1.toList ++ st) z.2) := e_callVK k108_21 (by decide) rfl ⟨hm, Nat.le_of_ble_eq_true rfl⟩
theorem k108_24 : cod 108 24 = some (.ifCond .eq (6), 3, 30, 0, 0, 0) := rfl
theorem e108_24 (x : Int32) (ls : mL) (st : List Value) (σ : mS) : ev 108 24 ls (.int x :: st) σ = if x = 0 then ev 108 30 ls st σ else ev 108 27 ls st σ := e_if_eq k108_24
theorem k108_27 : cod 108 27 = some (.bipush (-2), 2, 0, 0, 0, 0) := rfl
theorem e108_27 (ls : mL) (st : List Value) (σ : mS) : ev 108 27 ls st σ = ev 108 29 ls (.int (-2) :: st) σ := e_bipush (-2) k108_27 (by decide)
theorem k108_29 : cod 108 29 = some (.ireturn, 1, 0, 0, 0, 0) := rfl
theorem e108_29 (x : Int32) (ls : mL) (σ : mS) : ev 108 29 ls [.int x] σ = some (some (.int x), σ) := e_iret k108_29 rfl
theorem k108_30 : cod 108 30 = some (.aload_n 0, 1, 0, 0, 0, 0) := rfl
theorem e108_30 (x : Nat) (ls : mL) (st : List Value) (σ : mS) : ev 108 30 (some (.ref x) :: ls) st σ = ev 108 31 (some (.ref x) :: ls) (.ref x :: st) σ := e_aload1 k108_30 rfl
theorem k108_31 : cod 108 31 = some (.getfield 36, 3, 7, 4, 0, 3) := rfl
theorem e108_31 (t : Nat) (ls : mL) (st : List Value) (σ : mS) : ev 108 31 ls (.ref t :: st) σ = gfK (σ.1 t) 7 4 (fun v => ev 108 34 ls (v :: st) σ) := e_getf k108_31
theorem k108_34 : cod 108 34 = some (.iload_n 1, 1, 0, 0, 0, 0) := rfl
theorem e108_34 (a0 : Option Value) (x : Int32) (ls : mL) (st : List Value) (σ : mS) : ev 108 34 (a0 :: some (.int x) :: ls) st σ = ev 108 35 (a0 :: some (.int x) :: ls) (.int x :: st) σ := e_iload1 k108_34 rfl
theorem k108_35 : cod 108 35 = some (.invokevirtual 197, 3, 8, 1, 0, 0) := rfl
theorem e108_35 (t : Nat) (x0 : Int32) (ls : mL) (st : List Value) (σ : mS) (hm : mCat st ≤ 8) : ev 108 35 ls (.int x0 :: .ref t :: st) σ = isC (σ.1 t) 0 ((evM 8 [.ref t, .int x0] σ).bind fun z => ev 108 38 ls (z.1.toList ++ st) z.2) := e_callVK k108_35 (by decide) rfl ⟨hm, Nat.le_of_ble_eq_true rfl⟩
theorem k108_38 : cod 108 38 = some (.ireturn, 1, 0, 0, 0, 0) := rfl
theorem e108_38 (x : Int32) (ls : mL) (σ : mS) : ev 108 38 ls [.int x] σ = some (some (.int x), σ) := e_iret k108_38 rfl
theorem m108 (t : Nat) (x0 : Int32) (σ : mS) : evM 108 [.ref t, .int x0] σ = ev 108 0 [some (.ref t), some (.int x0)] [] σ := rfl
theorem k109_0 : cod 109 0 = some (.aload_n 0, 1, 0, 0, 0, 0) := rfl
theorem e109_0 (x : Nat) (ls : mL) (st : List Value) (σ : mS) : ev 109 0 (some (.ref x) :: ls) st σ = ev 109 1 (some (.ref x) :: ls) (.ref x :: st) σ := e_aload1 k109_0 rfl
theorem k109_1 : cod 109 1 = some (.getfield 36, 3, 7, 4, 0, 3) := rfl
theorem e109_1 (t : Nat) (ls : mL) (st : List Value) (σ : mS) : ev 109 1 ls (.ref t :: st) σ = gfK (σ.1 t) 7 4 (fun v => ev 109 4 ls (v :: st) σ) := e_getf k109_1
theorem k109_4 : cod 109 4 = some (.getfield 185, 3, 0, 2, 1, 3) := rfl
theorem e109_4 (t : Nat) (ls : mL) (st : List Value) (σ : mS) : ev 109 4 ls (.ref t :: st) σ = gfK (σ.1 t) 0 2 (fun v => ev 109 7 ls (v :: st) σ) := e_getf k109_4
theorem k109_7 : cod 109 7 = some (.iload_n 1, 1, 0, 0, 0, 0) := rfl
theorem e109_7 (a0 : Option Value) (x : Int32) (ls : mL) (st : List Value) (σ : mS) : ev 109 7 (a0 :: some (.int x) :: ls) st σ = ev 109 8 (a0 :: some (.int x) :: ls) (.int x :: st) σ := e_iload1 k109_7 rfl
theorem k109_8 : cod 109 8 = some (.invokevirtual 155, 3, 37, 1, 0, 3) := rfl
theorem e109_8 (t : Nat) (x0 : Int32) (ls : mL) (st : List Value) (σ : mS) (hm : mCat st ≤ 8) : ev 109 8 ls (.int x0 :: .ref t :: st) σ = isC (σ.1 t) 3 ((evM 37 [.ref t, .int x0] σ).bind fun z => ev 109 11 ls (z.1.toList ++ st) z.2) := e_callVK k109_8 (by decide) rfl ⟨hm, Nat.le_of_ble_eq_true rfl⟩
theorem k109_11 : cod 109 11 = some (.ifCond .eq (13), 3, 24, 0, 0, 0) := rfl
theorem e109_11 (x : Int32) (ls : mL) (st : List Value) (σ : mS) : ev 109 11 ls (.int x :: st) σ = if x = 0 then ev 109 24 ls st σ else ev 109 14 ls st σ := e_if_eq k109_11
theorem k109_14 : cod 109 14 = some (.iload_n 2, 1, 0, 0, 0, 0) := rfl
theorem e109_14 (a0 a1 : Option Value) (x : Int32) (ls : mL) (st : List Value) (σ : mS) : ev 109 14 (a0 :: a1 :: some (.int x) :: ls) st σ = ev 109 15 (a0 :: a1 :: some (.int x) :: ls) (.int x :: st) σ := e_iload1 k109_14 rfl
theorem k109_15 : cod 109 15 = some (.iconst 0, 1, 0, 0, 0, 0) := rfl
theorem e109_15 (ls : mL) (st : List Value) (σ : mS) : ev 109 15 ls st σ = ev 109 16 ls (.int 0 :: st) σ := e_iconst 0 k109_15 (by decide)
theorem k109_16 : cod 109 16 = some (.bipush (7), 2, 0, 0, 0, 0) := rfl
theorem e109_16 (ls : mL) (st : List Value) (σ : mS) : ev 109 16 ls st σ = ev 109 18 ls (.int 7 :: st) σ := e_bipush 7 k109_16 (by decide)
theorem k109_18 : cod 109 18 = some (.invokestatic 78, 3, 87, 3, 0, 0) := rfl
theorem e109_18 (x0 : Int32) (x1 : Int32) (x2 : Int32) (ls : mL) (st : List Value) (σ : mS) (hm : mCat st ≤ 8) : ev 109 18 ls (.int x2 :: .int x1 :: .int x0 :: st) σ = (evM 87 [.int x0, .int x1, .int x2] σ).bind fun z => ev 109 21 ls (z.1.toList ++ st) z.2 := e_callS k109_18 (by decide) rfl ⟨hm, Nat.le_of_ble_eq_true rfl⟩
theorem k109_21 : cod 109 21 = some (.ifCond .ne (5), 3, 26, 0, 0, 0) := rfl
theorem e109_21 (x : Int32) (ls : mL) (st : List Value) (σ : mS) : ev 109 21 ls (.int x :: st) σ = if x = 0 then ev 109 24 ls st σ else ev 109 26 ls st σ := e_if_ne k109_21
theorem k109_24 : cod 109 24 = some (.iconst (-1), 1, 0, 0, 0, 0) := rfl
theorem e109_24 (ls : mL) (st : List Value) (σ : mS) : ev 109 24 ls st σ = ev 109 25 ls (.int (-1) :: st) σ := e_iconst (-1) k109_24 (by decide)
theorem k109_25 : cod 109 25 = some (.ireturn, 1, 0, 0, 0, 0) := rfl
theorem e109_25 (x : Int32) (ls : mL) (σ : mS) : ev 109 25 ls [.int x] σ = some (some (.int x), σ) := e_iret k109_25 rfl
theorem k109_26 : cod 109 26 = some (.iload_n 2, 1, 0, 0, 0, 0) := rfl
theorem e109_26 (a0 a1 : Option Value) (x : Int32) (ls : mL) (st : List Value) (σ : mS) : ev 109 26 (a0 :: a1 :: some (.int x) :: ls) st σ = ev 109 27 (a0 :: a1 :: some (.int x) :: ls) (.int x :: st) σ := e_iload1 k109_26 rfl
theorem k109_27 : cod 109 27 = some (.bipush (6), 2, 0, 0, 0, 0) := rfl
theorem e109_27 (ls : mL) (st : List Value) (σ : mS) : ev 109 27 ls st σ = ev 109 29 ls (.int 6 :: st) σ := e_bipush 6 k109_27 (by decide)
theorem k109_29 : cod 109 29 = some (.if_icmp .ne (20), 3, 49, 0, 0, 0) := rfl
theorem e109_29 (x y : Int32) (ls : mL) (st : List Value) (σ : mS) : ev 109 29 ls (.int y :: .int x :: st) σ = if x = y then ev 109 32 ls st σ else ev 109 49 ls st σ := e_ic_ne k109_29
theorem k109_32 : cod 109 32 = some (.aload_n 0, 1, 0, 0, 0, 0) := rfl
theorem e109_32 (x : Nat) (ls : mL) (st : List Value) (σ : mS) : ev 109 32 (some (.ref x) :: ls) st σ = ev 109 33 (some (.ref x) :: ls) (.ref x :: st) σ := e_aload1 k109_32 rfl
theorem k109_33 : cod 109 33 = some (.getfield 36, 3, 7, 4, 0, 3) := rfl
theorem e109_33 (t : Nat) (ls : mL) (st : List Value) (σ : mS) : ev 109 33 ls (.ref t :: st) σ = gfK (σ.1 t) 7 4 (fun v => ev 109 36 ls (v :: st) σ) := e_getf k109_33
theorem k109_36 : cod 109 36 = some (.iload_n 1, 1, 0, 0, 0, 0) := rfl
theorem e109_36 (a0 : Option Value) (x : Int32) (ls : mL) (st : List Value) (σ : mS) : ev 109 36 (a0 :: some (.int x) :: ls) st σ = ev 109 37 (a0 :: some (.int x) :: ls) (.int x :: st) σ := e_iload1 k109_36 rfl
theorem k109_37 : cod 109 37 = some (.invokevirtual 188, 3, 5, 1, 0, 0) := rfl
theorem e109_37 (t : Nat) (x0 : Int32) (ls : mL) (st : List Value) (σ : mS) (hm : mCat st ≤ 8) : ev 109 37 ls (.int x0 :: .ref t :: st) σ = isC (σ.1 t) 0 ((evM 5 [.ref t, .int x0] σ).bind fun z => ev 109 40 ls (z.1.toList ++ st) z.2) := e_callVK k109_37 (by decide) rfl ⟨hm, Nat.le_of_ble_eq_true rfl⟩
theorem k109_40 : cod 109 40 = some (.ifCond .eq (7), 3, 47, 0, 0, 0) := rfl
theorem e109_40 (x : Int32) (ls : mL) (st : List Value) (σ : mS) : ev 109 40 ls (.int x :: st) σ = if x = 0 then ev 109 47 ls st σ else ev 109 43 ls st σ := e_if_eq k109_40
theorem k109_43 : cod 109 43 = some (.iconst 1, 1, 0, 0, 0, 0) := rfl
theorem e109_43 (ls : mL) (st : List Value) (σ : mS) : ev 109 43 ls st σ = ev 109 44 ls (.int 1 :: st) σ := e_iconst 1 k109_43 (by decide)
theorem k109_44 : cod 109 44 = some (.goto (4), 3, 48, 0, 0, 0) := rfl
theorem e109_44 (ls : mL) (st : List Value) (σ : mS) : ev 109 44 ls st σ = ev 109 48 ls st σ := e_goto k109_44
theorem k109_47 : cod 109 47 = some (.iconst 0, 1, 0, 0, 0, 0) := rfl
theorem e109_47 (ls : mL) (st : List Value) (σ : mS) : ev 109 47 ls st σ = ev 109 48 ls (.int 0 :: st) σ := e_iconst 0 k109_47 (by decide)
theorem k109_48 : cod 109 48 = some (.ireturn, 1, 0, 0, 0, 0) := rfl
theorem e109_48 (x : Int32) (ls : mL) (σ : mS) : ev 109 48 ls [.int x] σ = some (some (.int x), σ) := e_iret k109_48 rfl
theorem k109_49 : cod 109 49 = some (.aload_n 0, 1, 0, 0, 0, 0) := rfl
theorem e109_49 (x : Nat) (ls : mL) (st : List Value) (σ : mS) : ev 109 49 (some (.ref x) :: ls) st σ = ev 109 50 (some (.ref x) :: ls) (.ref x :: st) σ := e_aload1 k109_49 rfl
theorem k109_50 : cod 109 50 = some (.getfield 36, 3, 7, 4, 0, 3) := rfl
theorem e109_50 (t : Nat) (ls : mL) (st : List Value) (σ : mS) : ev 109 50 ls (.ref t :: st) σ = gfK (σ.1 t) 7 4 (fun v => ev 109 53 ls (v :: st) σ) := e_getf k109_50
theorem k109_53 : cod 109 53 = some (.getfield 185, 3, 0, 2, 1, 3) := rfl
theorem e109_53 (t : Nat) (ls : mL) (st : List Value) (σ : mS) : ev 109 53 ls (.ref t :: st) σ = gfK (σ.1 t) 0 2 (fun v => ev 109 56 ls (v :: st) σ) := e_getf k109_53
theorem k109_56 : cod 109 56 = some (.iload_n 1, 1, 0, 0, 0, 0) := rfl
theorem e109_56 (a0 : Option Value) (x : Int32) (ls : mL) (st : List Value) (σ : mS) : ev 109 56 (a0 :: some (.int x) :: ls) st σ = ev 109 57 (a0 :: some (.int x) :: ls) (.int x :: st) σ := e_iload1 k109_56 rfl
theorem k109_57 : cod 109 57 = some (.iload_n 2, 1, 0, 0, 0, 0) := rfl
theorem e109_57 (a0 a1 : Option Value) (x : Int32) (ls : mL) (st : List Value) (σ : mS) : ev 109 57 (a0 :: a1 :: some (.int x) :: ls) st σ = ev 109 58 (a0 :: a1 :: some (.int x) :: ls) (.int x :: st) σ := e_iload1 k109_57 rfl
theorem k109_58 : cod 109 58 = some (.invokevirtual 160, 3, 38, 2, 0, 3) := rfl
theorem e109_58 (t : Nat) (x0 : Int32) (x1 : Int32) (ls : mL) (st : List Value) (σ : mS) (hm : mCat st ≤ 8) : ev 109 58 ls (.int x1 :: .int x0 :: .ref t :: st) σ = isC (σ.1 t) 3 ((evM 38 [.ref t, .int x0, .int x1] σ).bind fun z => ev 109 61 ls (z.1.toList ++ st) z.2) := e_callVK k109_58 (by decide) rfl ⟨hm, Nat.le_of_ble_eq_true rfl⟩
theorem k109_61 : cod 109 61 = some (.ireturn, 1, 0, 0, 0, 0) := rfl
theorem e109_61 (x : Int32) (ls : mL) (σ : mS) : ev 109 61 ls [.int x] σ = some (some (.int x), σ) := e_iret k109_61 rfl
theorem m109 (t : Nat) (x0 : Int32) (x1 : Int32) (σ : mS) : evM 109 [.ref t, .int x0, .int x1] σ = ev 109 0 [some (.ref t), some (.int x0), some (.int x1)] [] σ := rfl
theorem k110_0 : cod 110 0 = some (.aload_n 0, 1, 0, 0, 0, 0) := rfl
theorem e110_0 (x : Nat) (ls : mL) (st : List Value) (σ : mS) : ev 110 0 (some (.ref x) :: ls) st σ = ev 110 1 (some (.ref x) :: ls) (.ref x :: st) σ := e_aload1 k110_0 rfl
theorem k110_1 : cod 110 1 = some (.getfield 36, 3, 7, 4, 0, 3) := rfl
theorem e110_1 (t : Nat) (ls : mL) (st : List Value) (σ : mS) : ev 110 1 ls (.ref t :: st) σ = gfK (σ.1 t) 7 4 (fun v => ev 110 4 ls (v :: st) σ) := e_getf k110_1
theorem k110_4 : cod 110 4 = some (.getfield 174, 3, 0, 1, 1, 3) := rfl
theorem e110_4 (t : Nat) (ls : mL) (st : List Value) (σ : mS) : ev 110 4 ls (.ref t :: st) σ = gfK (σ.1 t) 0 1 (fun v => ev 110 7 ls (v :: st) σ) := e_getf k110_4
theorem k110_7 : cod 110 7 = some (.iload_n 1, 1, 0, 0, 0, 0) := rfl
theorem e110_7 (a0 : Option Value) (x : Int32) (ls : mL) (st : List Value) (σ : mS) : ev 110 7 (a0 :: some (.int x) :: ls) st σ = ev 110 8 (a0 :: some (.int x) :: ls) (.int x :: st) σ := e_iload1 k110_7 rfl
theorem k110_8 : cod 110 8 = some (.invokevirtual 155, 3, 37, 1, 0, 3) := rfl
theorem e110_8 (t : Nat) (x0 : Int32) (ls : mL) (st : List Value) (σ : mS) (hm : mCat st ≤ 8) : ev 110 8 ls (.int x0 :: .ref t :: st) σ = isC (σ.1 t) 3 ((evM 37 [.ref t, .int x0] σ).bind fun z => ev 110 11 ls (z.1.toList ++ st) z.2) := e_callVK k110_8 (by decide) rfl ⟨hm, Nat.le_of_ble_eq_true rfl⟩
theorem k110_11 : cod 110 11 = some (.ifCond .ne (5), 3, 16, 0, 0, 0) := rfl
theorem e110_11 (x : Int32) (ls : mL) (st : List Value) (σ : mS) : ev 110 11 ls (.int x :: st) σ = if x = 0 then ev 110 14 ls st σ else ev 110 16 ls st σ := e_if_ne k110_11
theorem k110_14 : cod 110 14 = some (.iconst (-1), 1, 0, 0, 0, 0) := rfl
theorem e110_14 (ls : mL) (st : List Value) (σ : mS) : ev 110 14 ls st σ = ev 110 15 ls (.int (-1) :: st) σ := e_iconst (-1) k110_14 (by decide)
theorem k110_15 : cod 110 15 = some (.ireturn, 1, 0, 0, 0, 0) := rfl
theorem e110_15 (x : Int32) (ls : mL) (σ : mS) : ev 110 15 ls [.int x] σ = some (some (.int x), σ) := e_iret k110_15 rfl
theorem k110_16 : cod 110 16 = some (.aload_n 0, 1, 0, 0, 0, 0) := rfl
theorem e110_16 (x : Nat) (ls : mL) (st : List Value) (σ : mS) : ev 110 16 (some (.ref x) :: ls) st σ = ev 110 17 (some (.ref x) :: ls) (.ref x :: st) σ := e_aload1 k110_16 rfl
theorem k110_17 : cod 110 17 = some (.getfield 36, 3, 7, 4, 0, 3) := rfl
theorem e110_17 (t : Nat) (ls : mL) (st : List Value) (σ : mS) : ev 110 17 ls (.ref t :: st) σ = gfK (σ.1 t) 7 4 (fun v => ev 110 20 ls (v :: st) σ) := e_getf k110_17
theorem k110_20 : cod 110 20 = some (.getfield 174, 3, 0, 1, 1, 3) := rfl
theorem e110_20 (t : Nat) (ls : mL) (st : List Value) (σ : mS) : ev 110 20 ls (.ref t :: st) σ = gfK (σ.1 t) 0 1 (fun v => ev 110 23 ls (v :: st) σ) := e_getf k110_20
theorem k110_23 : cod 110 23 = some (.iload_n 1, 1, 0, 0, 0, 0) := rfl
theorem e110_23 (a0 : Option Value) (x : Int32) (ls : mL) (st : List Value) (σ : mS) : ev 110 23 (a0 :: some (.int x) :: ls) st σ = ev 110 24 (a0 :: some (.int x) :: ls) (.int x :: st) σ := e_iload1 k110_23 rfl
theorem k110_24 : cod 110 24 = some (.iconst 2, 1, 0, 0, 0, 0) := rfl
theorem e110_24 (ls : mL) (st : List Value) (σ : mS) : ev 110 24 ls st σ = ev 110 25 ls (.int 2 :: st) σ := e_iconst 2 k110_24 (by decide)
theorem k110_25 : cod 110 25 = some (.invokevirtual 160, 3, 38, 2, 0, 3) := rfl
theorem e110_25 (t : Nat) (x0 : Int32) (x1 : Int32) (ls : mL) (st : List Value) (σ : mS) (hm : mCat st ≤ 8) : ev 110 25 ls (.int x1 :: .int x0 :: .ref t :: st) σ = isC (σ.1 t) 3 ((evM 38 [.ref t, .int x0, .int x1] σ).bind fun z => ev 110 28 ls (z.1.toList ++ st) z.2) := e_callVK k110_25 (by decide) rfl ⟨hm, Nat.le_of_ble_eq_true rfl⟩
theorem k110_28 : cod 110 28 = some (.bipush (9), 2, 0, 0, 0, 0) := rfl
theorem e110_28 (ls : mL) (st : List Value) (σ : mS) : ev 110 28 ls st σ = ev 110 30 ls (.int 9 :: st) σ := e_bipush 9 k110_28 (by decide)
theorem k110_30 : cod 110 30 = some (.if_icmp .lt (6), 3, 36, 0, 0, 0) := rfl
theorem e110_30 (x y : Int32) (ls : mL) (st : List Value) (σ : mS) : ev 110 30 ls (.int y :: .int x :: st) σ = if x < y then ev 110 36 ls st σ else ev 110 33 ls st σ := e_ic_lt k110_30
theorem k110_33 : cod 110 33 = some (.bipush (-3), 2, 0, 0, 0, 0) := rfl
theorem e110_33 (ls : mL) (st : List Value) (σ : mS) : ev 110 33 ls st σ = ev 110 35 ls (.int (-3) :: st) σ := e_bipush (-3) k110_33 (by decide)
theorem k110_35 : cod 110 35 = some (.ireturn, 1, 0, 0, 0, 0) := rfl
theorem e110_35 (x : Int32) (ls : mL) (σ : mS) : ev 110 35 ls [.int x] σ = some (some (.int x), σ) := e_iret k110_35 rfl
theorem k110_36 : cod 110 36 = some (.aload_n 0, 1, 0, 0, 0, 0) := rfl
theorem e110_36 (x : Nat) (ls : mL) (st : List Value) (σ : mS) : ev 110 36 (some (.ref x) :: ls) st σ = ev 110 37 (some (.ref x) :: ls) (.ref x :: st) σ := e_aload1 k110_36 rfl
theorem k110_37 : cod 110 37 = some (.getfield 36, 3, 7, 4, 0, 3) := rfl
theorem e110_37 (t : Nat) (ls : mL) (st : List Value) (σ : mS) : ev 110 37 ls (.ref t :: st) σ = gfK (σ.1 t) 7 4 (fun v => ev 110 40 ls (v :: st) σ) := e_getf k110_37
theorem k110_40 : cod 110 40 = some (.getfield 174, 3, 0, 1, 1, 3) := rfl
theorem e110_40 (t : Nat) (ls : mL) (st : List Value) (σ : mS) : ev 110 40 ls (.ref t :: st) σ = gfK (σ.1 t) 0 1 (fun v => ev 110 43 ls (v :: st) σ) := e_getf k110_40
theorem k110_43 : cod 110 43 = some (.iload_n 1, 1, 0, 0, 0, 0) := rfl
theorem e110_43 (a0 : Option Value) (x : Int32) (ls : mL) (st : List Value) (σ : mS) : ev 110 43 (a0 :: some (.int x) :: ls) st σ = ev 110 44 (a0 :: some (.int x) :: ls) (.int x :: st) σ := e_iload1 k110_43 rfl
theorem k110_44 : cod 110 44 = some (.iconst 2, 1, 0, 0, 0, 0) := rfl
theorem e110_44 (ls : mL) (st : List Value) (σ : mS) : ev 110 44 ls st σ = ev 110 45 ls (.int 2 :: st) σ := e_iconst 2 k110_44 (by decide)
theorem k110_45 : cod 110 45 = some (.iconst 1, 1, 0, 0, 0, 0) := rfl
theorem e110_45 (ls : mL) (st : List Value) (σ : mS) : ev 110 45 ls st σ = ev 110 46 ls (.int 1 :: st) σ := e_iconst 1 k110_45 (by decide)
theorem k110_46 : cod 110 46 = some (.invokevirtual 200, 3, 39, 3, 0, 3) := rfl
theorem e110_46 (t : Nat) (x0 : Int32) (x1 : Int32) (x2 : Int32) (ls : mL) (st : List Value) (σ : mS) (hm : mCat st ≤ 8) : ev 110 46 ls (.int x2 :: .int x1 :: .int x0 :: .ref t :: st) σ = isC (σ.1 t) 3 ((evM 39 [.ref t, .int x0, .int x1, .int x2] σ).bind fun z => ev 110 49 ls (z.1.toList ++ st) z.2) := e_callVK k110_46 (by decide) rfl ⟨hm, Nat.le_of_ble_eq_true rfl⟩
theorem k110_49 : cod 110 49 = some (.aload_n 0, 1, 0, 0, 0, 0) := rfl
theorem e110_49 (x : Nat) (ls : mL) (st : List Value) (σ : mS) : ev 110 49 (some (.ref x) :: ls) st σ = ev 110 50 (some (.ref x) :: ls) (.ref x :: st) σ := e_aload1 k110_49 rfl
theorem k110_50 : cod 110 50 = some (.getfield 36, 3, 7, 4, 0, 3) := rfl
theorem e110_50 (t : Nat) (ls : mL) (st : List Value) (σ : mS) : ev 110 50 ls (.ref t :: st) σ = gfK (σ.1 t) 7 4 (fun v => ev 110 53 ls (v :: st) σ) := e_getf k110_50
theorem k110_53 : cod 110 53 = some (.getfield 174, 3, 0, 1, 1, 3) := rfl
theorem e110_53 (t : Nat) (ls : mL) (st : List Value) (σ : mS) : ev 110 53 ls (.ref t :: st) σ = gfK (σ.1 t) 0 1 (fun v => ev 110 56 ls (v :: st) σ) := e_getf k110_53
theorem k110_56 : cod 110 56 = some (.iload_n 1, 1, 0, 0, 0, 0) := rfl
theorem e110_56 (a0 : Option Value) (x : Int32) (ls : mL) (st : List Value) (σ : mS) : ev 110 56 (a0 :: some (.int x) :: ls) st σ = ev 110 57 (a0 :: some (.int x) :: ls) (.int x :: st) σ := e_iload1 k110_56 rfl
theorem k110_57 : cod 110 57 = some (.iconst 2, 1, 0, 0, 0, 0) := rfl
theorem e110_57 (ls : mL) (st : List Value) (σ : mS) : ev 110 57 ls st σ = ev 110 58 ls (.int 2 :: st) σ := e_iconst 2 k110_57 (by decide)
theorem k110_58 : cod 110 58 = some (.invokevirtual 160, 3, 38, 2, 0, 3) := rfl
theorem e110_58 (t : Nat) (x0 : Int32) (x1 : Int32) (ls : mL) (st : List Value) (σ : mS) (hm : mCat st ≤ 8) : ev 110 58 ls (.int x1 :: .int x0 :: .ref t :: st) σ = isC (σ.1 t) 3 ((evM 38 [.ref t, .int x0, .int x1] σ).bind fun z => ev 110 61 ls (z.1.toList ++ st) z.2) := e_callVK k110_58 (by decide) rfl ⟨hm, Nat.le_of_ble_eq_true rfl⟩
theorem k110_61 : cod 110 61 = some (.ireturn, 1, 0, 0, 0, 0) := rfl
theorem e110_61 (x : Int32) (ls : mL) (σ : mS) : ev 110 61 ls [.int x] σ = some (some (.int x), σ) := e_iret k110_61 rfl
theorem m110 (t : Nat) (x0 : Int32) (σ : mS) : evM 110 [.ref t, .int x0] σ = ev 110 0 [some (.ref t), some (.int x0)] [] σ := rfl
theorem k111_0 : cod 111 0 = some (.aload_n 0, 1, 0, 0, 0, 0) := rfl
theorem e111_0 (x : Nat) (ls : mL) (st : List Value) (σ : mS) : ev 111 0 (some (.ref x) :: ls) st σ = ev 111 1 (some (.ref x) :: ls) (.ref x :: st) σ := e_aload1 k111_0 rfl
theorem k111_1 : cod 111 1 = some (.getfield 36, 3, 7, 4, 0, 3) := rfl
theorem e111_1 (t : Nat) (ls : mL) (st : List Value) (σ : mS) : ev 111 1 ls (.ref t :: st) σ = gfK (σ.1 t) 7 4 (fun v => ev 111 4 ls (v :: st) σ) := e_getf k111_1
theorem k111_4 : cod 111 4 = some (.getfield 174, 3, 0, 1, 1, 3) := rfl
theorem e111_4 (t : Nat) (ls : mL) (st : List Value) (σ : mS) : ev 111 4 ls (.ref t :: st) σ = gfK (σ.1 t) 0 1 (fun v => ev 111 7 ls (v :: st) σ) := e_getf k111_4
theorem k111_7 : cod 111 7 = some (.iload_n 1, 1, 0, 0, 0, 0) := rfl
theorem e111_7 (a0 : Option Value) (x : Int32) (ls : mL) (st : List Value) (σ : mS) : ev 111 7 (a0 :: some (.int x) :: ls) st σ = ev 111 8 (a0 :: some (.int x) :: ls) (.int x :: st) σ := e_iload1 k111_7 rfl
theorem k111_8 : cod 111 8 = some (.invokevirtual 155, 3, 37, 1, 0, 3) := rfl
theorem e111_8 (t : Nat) (x0 : Int32) (ls : mL) (st : List Value) (σ : mS) (hm : mCat st ≤ 8) : ev 111 8 ls (.int x0 :: .ref t :: st) σ = isC (σ.1 t) 3 ((evM 37 [.ref t, .int x0] σ).bind fun z => ev 111 11 ls (z.1.toList ++ st) z.2) := e_callVK k111_8 (by decide) rfl ⟨hm, Nat.le_of_ble_eq_true rfl⟩
theorem k111_11 : cod 111 11 = some (.ifCond .eq (29), 3, 40, 0, 0, 0) := rfl
theorem e111_11 (x : Int32) (ls : mL) (st : List Value) (σ : mS) : ev 111 11 ls (.int x :: st) σ = if x = 0 then ev 111 40 ls st σ else ev 111 14 ls st σ := e_if_eq k111_11
theorem k111_14 : cod 111 14 = some (.iload_n 2, 1, 0, 0, 0, 0) := rfl
theorem e111_14 (a0 a1 : Option Value) (x : Int32) (ls : mL) (st : List Value) (σ : mS) : ev 111 14 (a0 :: a1 :: some (.int x) :: ls) st σ = ev 111 15 (a0 :: a1 :: some (.int x) :: ls) (.int x :: st) σ := e_iload1 k111_14 rfl
theorem k111_15 : cod 111 15 = some (.invokestatic 112, 3, 92, 1, 0, 0) := rfl
theorem e111_15 (x0 : Int32) (ls : mL) (st : List Value) (σ : mS) (hm : mCat st ≤ 8) : ev 111 15 ls (.int x0 :: st) σ = (evM 92 [.int x0] σ).bind fun z => ev 111 18 ls (z.1.toList ++ st) z.2 := e_callS k111_15 (by decide) rfl ⟨hm, Nat.le_of_ble_eq_true rfl⟩
theorem k111_18 : cod 111 18 = some (.ifCond .eq (22), 3, 40, 0, 0, 0) := rfl
theorem e111_18 (x : Int32) (ls : mL) (st : List Value) (σ : mS) : ev 111 18 ls (.int x :: st) σ = if x = 0 then ev 111 40 ls st σ else ev 111 21 ls st σ := e_if_eq k111_18
theorem k111_21 : cod 111 21 = some (.iload_n 3, 1, 0, 0, 0, 0) := rfl
theorem e111_21 (a0 a1 a2 : Option Value) (x : Int32) (ls : mL) (st : List Value) (σ : mS) : ev 111 21 (a0 :: a1 :: a2 :: some (.int x) :: ls) st σ = ev 111 22 (a0 :: a1 :: a2 :: some (.int x) :: ls) (.int x :: st) σ := e_iload1 k111_21 rfl
theorem k111_22 : cod 111 22 = some (.iconst 0, 1, 0, 0, 0, 0) := rfl
theorem e111_22 (ls : mL) (st : List Value) (σ : mS) : ev 111 22 ls st σ = ev 111 23 ls (.int 0 :: st) σ := e_iconst 0 k111_22 (by decide)
theorem k111_23 : cod 111 23 = some (.iconst 3, 1, 0, 0, 0, 0) := rfl
theorem e111_23 (ls : mL) (st : List Value) (σ : mS) : ev 111 23 ls st σ = ev 111 24 ls (.int 3 :: st) σ := e_iconst 3 k111_23 (by decide)
theorem k111_24 : cod 111 24 = some (.invokestatic 78, 3, 87, 3, 0, 0) := rfl
theorem e111_24 (x0 : Int32) (x1 : Int32) (x2 : Int32) (ls : mL) (st : List Value) (σ : mS) (hm : mCat st ≤ 8) : ev 111 24 ls (.int x2 :: .int x1 :: .int x0 :: st) σ = (evM 87 [.int x0, .int x1, .int x2] σ).bind fun z => ev 111 27 ls (z.1.toList ++ st) z.2 := e_callS k111_24 (by decide) rfl ⟨hm, Nat.le_of_ble_eq_true rfl⟩
theorem k111_27 : cod 111 27 = some (.ifCond .eq (13), 3, 40, 0, 0, 0) := rfl
theorem e111_27 (x : Int32) (ls : mL) (st : List Value) (σ : mS) : ev 111 27 ls (.int x :: st) σ = if x = 0 then ev 111 40 ls st σ else ev 111 30 ls st σ := e_if_eq k111_27
theorem k111_30 : cod 111 30 = some (.iload 4, 2, 0, 0, 0, 0) := rfl
theorem e111_30 (a0 a1 a2 a3 : Option Value) (x : Int32) (ls : mL) (st : List Value) (σ : mS) : ev 111 30 (a0 :: a1 :: a2 :: a3 :: some (.int x) :: ls) st σ = ev 111 32 (a0 :: a1 :: a2 :: a3 :: some (.int x) :: ls) (.int x :: st) σ := e_iload0 k111_30 rfl
theorem k111_32 : cod 111 32 = some (.iconst 0, 1, 0, 0, 0, 0) := rfl
theorem e111_32 (ls : mL) (st : List Value) (σ : mS) : ev 111 32 ls st σ = ev 111 33 ls (.int 0 :: st) σ := e_iconst 0 k111_32 (by decide)
theorem k111_33 : cod 111 33 = some (.iconst 1, 1, 0, 0, 0, 0) := rfl
theorem e111_33 (ls : mL) (st : List Value) (σ : mS) : ev 111 33 ls st σ = ev 111 34 ls (.int 1 :: st) σ := e_iconst 1 k111_33 (by decide)
theorem k111_34 : cod 111 34 = some (.invokestatic 78, 3, 87, 3, 0, 0) := rfl
theorem e111_34 (x0 : Int32) (x1 : Int32) (x2 : Int32) (ls : mL) (st : List Value) (σ : mS) (hm : mCat st ≤ 8) : ev 111 34 ls (.int x2 :: .int x1 :: .int x0 :: st) σ = (evM 87 [.int x0, .int x1, .int x2] σ).bind fun z => ev 111 37 ls (z.1.toList ++ st) z.2 := e_callS k111_34 (by decide) rfl ⟨hm, Nat.le_of_ble_eq_true rfl⟩
theorem k111_37 : cod 111 37 = some (.ifCond .ne (5), 3, 42, 0, 0, 0) := rfl
theorem e111_37 (x : Int32) (ls : mL) (st : List Value) (σ : mS) : ev 111 37 ls (.int x :: st) σ = if x = 0 then ev 111 40 ls st σ else ev 111 42 ls st σ := e_if_ne k111_37
theorem k111_40 : cod 111 40 = some (.iconst (-1), 1, 0, 0, 0, 0) := rfl
theorem e111_40 (ls : mL) (st : List Value) (σ : mS) : ev 111 40 ls st σ = ev 111 41 ls (.int (-1) :: st) σ := e_iconst (-1) k111_40 (by decide)
theorem k111_41 : cod 111 41 = some (.ireturn, 1, 0, 0, 0, 0) := rfl
theorem e111_41 (x : Int32) (ls : mL) (σ : mS) : ev 111 41 ls [.int x] σ = some (some (.int x), σ) := e_iret k111_41 rfl
theorem k111_42 : cod 111 42 = some (.iload 4, 2, 0, 0, 0, 0) := rfl
theorem e111_42 (a0 a1 a2 a3 : Option Value) (x : Int32) (ls : mL) (st : List Value) (σ : mS) : ev 111 42 (a0 :: a1 :: a2 :: a3 :: some (.int x) :: ls) st σ = ev 111 44 (a0 :: a1 :: a2 :: a3 :: some (.int x) :: ls) (.int x :: st) σ := e_iload0 k111_42 rfl
theorem k111_44 : cod 111 44 = some (.iconst 1, 1, 0, 0, 0, 0) := rfl
theorem e111_44 (ls : mL) (st : List Value) (σ : mS) : ev 111 44 ls st σ = ev 111 45 ls (.int 1 :: st) σ := e_iconst 1 k111_44 (by decide)
theorem k111_45 : cod 111 45 = some (.if_icmp .ne (23), 3, 68, 0, 0, 0) := rfl
theorem e111_45 (x y : Int32) (ls : mL) (st : List Value) (σ : mS) : ev 111 45 ls (.int y :: .int x :: st) σ = if x = y then ev 111 48 ls st σ else ev 111 68 ls st σ := e_ic_ne k111_45
theorem k111_48 : cod 111 48 = some (.aload_n 0, 1, 0, 0, 0, 0) := rfl
theorem e111_48 (x : Nat) (ls : mL) (st : List Value) (σ : mS) : ev 111 48 (some (.ref x) :: ls) st σ = ev 111 49 (some (.ref x) :: ls) (.ref x :: st) σ := e_aload1 k111_48 rfl
theorem k111_49 : cod 111 49 = some (.aload_n 0, 1, 0, 0, 0, 0) := rfl
theorem e111_49 (x : Nat) (ls : mL) (st : List Value) (σ : mS) : ev 111 49 (some (.ref x) :: ls) st σ = ev 111 50 (some (.ref x) :: ls) (.ref x :: st) σ := e_aload1 k111_49 rfl
theorem k111_50 : cod 111 50 = some (.getfield 36, 3, 7, 4, 0, 3) := rfl
theorem e111_50 (t : Nat) (ls : mL) (st : List Value) (σ : mS) : ev 111 50 ls (.ref t :: st) σ = gfK (σ.1 t) 7 4 (fun v => ev 111 53 ls (v :: st) σ) := e_getf k111_50
theorem k111_53 : cod 111 53 = some (.getfield 174, 3, 0, 1, 1, 3) := rfl
theorem e111_53 (t : Nat) (ls : mL) (st : List Value) (σ : mS) : ev 111 53 ls (.ref t :: st) σ = gfK (σ.1 t) 0 1 (fun v => ev 111 56 ls (v :: st) σ) := e_getf k111_53
theorem k111_56 : cod 111 56 = some (.iload_n 1, 1, 0, 0, 0, 0) := rfl
theorem e111_56 (a0 : Option Value) (x : Int32) (ls : mL) (st : List Value) (σ : mS) : ev 111 56 (a0 :: some (.int x) :: ls) st σ = ev 111 57 (a0 :: some (.int x) :: ls) (.int x :: st) σ := e_iload1 k111_56 rfl
theorem k111_57 : cod 111 57 = some (.iconst 0, 1, 0, 0, 0, 0) := rfl
theorem e111_57 (ls : mL) (st : List Value) (σ : mS) : ev 111 57 ls st σ = ev 111 58 ls (.int 0 :: st) σ := e_iconst 0 k111_57 (by decide)
theorem k111_58 : cod 111 58 = some (.invokevirtual 160, 3, 38, 2, 0, 3) := rfl
theorem e111_58 (t : Nat) (x0 : Int32) (x1 : Int32) (ls : mL) (st : List Value) (σ : mS) (hm : mCat st ≤ 8) : ev 111 58 ls (.int x1 :: .int x0 :: .ref t :: st) σ = isC (σ.1 t) 3 ((evM 38 [.ref t, .int x0, .int x1] σ).bind fun z => ev 111 61 ls (z.1.toList ++ st) z.2) := e_callVK k111_58 (by decide) rfl ⟨hm, Nat.le_of_ble_eq_true rfl⟩
theorem k111_61 : cod 111 61 = some (.iload_n 2, 1, 0, 0, 0, 0) := rfl
theorem e111_61 (a0 a1 : Option Value) (x : Int32) (ls : mL) (st : List Value) (σ : mS) : ev 111 61 (a0 :: a1 :: some (.int x) :: ls) st σ = ev 111 62 (a0 :: a1 :: some (.int x) :: ls) (.int x :: st) σ := e_iload1 k111_61 rfl
theorem k111_62 : cod 111 62 = some (.invokevirtual 135, 3, 97, 2, 0, 7) := rfl
theorem e111_62 (t : Nat) (x0 : Int32) (x1 : Int32) (ls : mL) (st : List Value) (σ : mS) (hm : mCat st ≤ 8) : ev 111 62 ls (.int x1 :: .int x0 :: .ref t :: st) σ = isC (σ.1 t) 7 ((evM 97 [.ref t, .int x0, .int x1] σ).bind fun z => ev 111 65 ls (z.1.toList ++ st) z.2) := e_callVK k111_62 (by decide) rfl ⟨hm, Nat.le_of_ble_eq_true rfl⟩
theorem k111_65 : cod 111 65 = some (.goto (4), 3, 69, 0, 0, 0) := rfl
theorem e111_65 (ls : mL) (st : List Value) (σ : mS) : ev 111 65 ls st σ = ev 111 69 ls st σ := e_goto k111_65
theorem k111_68 : cod 111 68 = some (.iload_n 2, 1, 0, 0, 0, 0) := rfl
theorem e111_68 (a0 a1 : Option Value) (x : Int32) (ls : mL) (st : List Value) (σ : mS) : ev 111 68 (a0 :: a1 :: some (.int x) :: ls) st σ = ev 111 69 (a0 :: a1 :: some (.int x) :: ls) (.int x :: st) σ := e_iload1 k111_68 rfl
theorem k111_69 : cod 111 69 = some (.istore 5, 2, 0, 0, 0, 0) := rfl
theorem e111_69i (a0 a1 a2 a3 : Option Value) (y : Int32) (o : Option Value) (x : Int32) (ls : mL) (st : List Value) (σ : mS) : ev 111 69 (a0 :: a1 :: a2 :: a3 :: some (.int y) :: o :: ls) (.int x :: st) σ = ev 111 71 (a0 :: a1 :: a2 :: a3 :: some (.int y) :: some (.int x) :: ls) st σ := e_istore0 k111_69 (Nat.le_add_left 6 ls.length)
theorem e111_69n (a0 a1 a2 a3 : Option Value) (o : Option Value) (x : Int32) (ls : mL) (st : List Value) (σ : mS) : ev 111 69 (a0 :: a1 :: a2 :: a3 :: none :: o :: ls) (.int x :: st) σ = ev 111 71 (a0 :: a1 :: a2 :: a3 :: none :: some (.int x) :: ls) st σ := e_istore0 k111_69 (Nat.le_add_left 6 ls.length)
theorem e111_69r (a0 a1 a2 a3 : Option Value) (y : Nat) (o : Option Value) (x : Int32) (ls : mL) (st : List Value) (σ : mS) : ev 111 69 (a0 :: a1 :: a2 :: a3 :: some (.ref y) :: o :: ls) (.int x :: st) σ = ev 111 71 (a0 :: a1 :: a2 :: a3 :: some (.ref y) :: some (.int x) :: ls) st σ := e_istore0 k111_69 (Nat.le_add_left 6 ls.length)
theorem k111_71 : cod 111 71 = some (.aload_n 0, 1, 0, 0, 0, 0) := rfl
theorem e111_71 (x : Nat) (ls : mL) (st : List Value) (σ : mS) : ev 111 71 (some (.ref x) :: ls) st σ = ev 111 72 (some (.ref x) :: ls) (.ref x :: st) σ := e_aload1 k111_71 rfl
theorem k111_72 : cod 111 72 = some (.iload_n 1, 1, 0, 0, 0, 0) := rfl
theorem e111_72 (a0 : Option Value) (x : Int32) (ls : mL) (st : List Value) (σ : mS) : ev 111 72 (a0 :: some (.int x) :: ls) st σ = ev 111 73 (a0 :: some (.int x) :: ls) (.int x :: st) σ := e_iload1 k111_72 rfl
theorem k111_73 : cod 111 73 = some (.iload 5, 2, 0, 0, 0, 0) := rfl
theorem e111_73 (a0 a1 a2 a3 a4 : Option Value) (x : Int32) (ls : mL) (st : List Value) (σ : mS) : ev 111 73 (a0 :: a1 :: a2 :: a3 :: a4 :: some (.int x) :: ls) st σ = ev 111 75 (a0 :: a1 :: a2 :: a3 :: a4 :: some (.int x) :: ls) (.int x :: st) σ := e_iload0 k111_73 rfl
theorem k111_75 : cod 111 75 = some (.iload_n 3, 1, 0, 0, 0, 0) := rfl
theorem e111_75 (a0 a1 a2 : Option Value) (x : Int32) (ls : mL) (st : List Value) (σ : mS) : ev 111 75 (a0 :: a1 :: a2 :: some (.int x) :: ls) st σ = ev 111 76 (a0 :: a1 :: a2 :: some (.int x) :: ls) (.int x :: st) σ := e_iload1 k111_75 rfl
theorem k111_76 : cod 111 76 = some (.invokevirtual 203, 3, 112, 3, 0, 7) := rfl
theorem e111_76 (t : Nat) (x0 : Int32) (x1 : Int32) (x2 : Int32) (ls : mL) (st : List Value) (σ : mS) (hm : mCat st ≤ 8) : ev 111 76 ls (.int x2 :: .int x1 :: .int x0 :: .ref t :: st) σ = isC (σ.1 t) 7 ((evM 112 [.ref t, .int x0, .int x1, .int x2] σ).bind fun z => ev 111 79 ls (z.1.toList ++ st) z.2) := e_callVK k111_76 (by decide) rfl ⟨hm, Nat.le_of_ble_eq_true rfl⟩
theorem k111_79 : cod 111 79 = some (.istore 6, 2, 0, 0, 0, 0) := rfl
theorem e111_79i (a0 a1 a2 a3 a4 : Option Value) (y : Int32) (o : Option Value) (x : Int32) (ls : mL) (st : List Value) (σ : mS) : ev 111 79 (a0 :: a1 :: a2 :: a3 :: a4 :: some (.int y) :: o :: ls) (.int x :: st) σ = ev 111 81 (a0 :: a1 :: a2 :: a3 :: a4 :: some (.int y) :: some (.int x) :: ls) st σ := e_istore0 k111_79 (Nat.le_add_left 7 ls.length)
theorem e111_79n (a0 a1 a2 a3 a4 : Option Value) (o : Option Value) (x : Int32) (ls : mL) (st : List Value) (σ : mS) : ev 111 79 (a0 :: a1 :: a2 :: a3 :: a4 :: none :: o :: ls) (.int x :: st) σ = ev 111 81 (a0 :: a1 :: a2 :: a3 :: a4 :: none :: some (.int x) :: ls) st σ := e_istore0 k111_79 (Nat.le_add_left 7 ls.length)
theorem e111_79r (a0 a1 a2 a3 a4 : Option Value) (y : Nat) (o : Option Value) (x : Int32) (ls : mL) (st : List Value) (σ : mS) : ev 111 79 (a0 :: a1 :: a2 :: a3 :: a4 :: some (.ref y) :: o :: ls) (.int x :: st) σ = ev 111 81 (a0 :: a1 :: a2 :: a3 :: a4 :: some (.ref y) :: some (.int x) :: ls) st σ := e_istore0 k111_79 (Nat.le_add_left 7 ls.length)
theorem k111_81 : cod 111 81 = some (.iload 6, 2, 0, 0, 0, 0) := rfl
theorem e111_81 (a0 a1 a2 a3 a4 a5 : Option Value) (x : Int32) (ls : mL) (st : List Value) (σ : mS) : ev 111 81 (a0 :: a1 :: a2 :: a3 :: a4 :: a5 :: some (.int x) :: ls) st σ = ev 111 83 (a0 :: a1 :: a2 :: a3 :: a4 :: a5 :: some (.int x) :: ls) (.int x :: st) σ := e_iload0 k111_81 rfl
theorem k111_83 : cod 111 83 = some (.ifCond .eq (9), 3, 92, 0, 0, 0) := rfl
theorem e111_83 (x : Int32) (ls : mL) (st : List Value) (σ : mS) : ev 111 83 ls (.int x :: st) σ = if x = 0 then ev 111 92 ls st σ else ev 111 86 ls st σ := e_if_eq k111_83
theorem k111_86 : cod 111 86 = some (.bipush (-10), 2, 0, 0, 0, 0) := rfl
theorem e111_86 (ls : mL) (st : List Value) (σ : mS) : ev 111 86 ls st σ = ev 111 88 ls (.int (-10) :: st) σ := e_bipush (-10) k111_86 (by decide)
theorem k111_88 : cod 111 88 = some (.iload 6, 2, 0, 0, 0, 0) := rfl
theorem e111_88 (a0 a1 a2 a3 a4 a5 : Option Value) (x : Int32) (ls : mL) (st : List Value) (σ : mS) : ev 111 88 (a0 :: a1 :: a2 :: a3 :: a4 :: a5 :: some (.int x) :: ls) st σ = ev 111 90 (a0 :: a1 :: a2 :: a3 :: a4 :: a5 :: some (.int x) :: ls) (.int x :: st) σ := e_iload0 k111_88 rfl
theorem k111_90 : cod 111 90 = some (.isub, 1, 0, 0, 0, 0) := rfl
theorem e111_90 (x y : Int32) (ls : mL) (st : List Value) (σ : mS) : ev 111 90 ls (.int y :: .int x :: st) σ = ev 111 91 ls (.int (x - y) :: st) σ := e_isub k111_90
theorem k111_91 : cod 111 91 = some (.ireturn, 1, 0, 0, 0, 0) := rfl
theorem e111_91 (x : Int32) (ls : mL) (σ : mS) : ev 111 91 ls [.int x] σ = some (some (.int x), σ) := e_iret k111_91 rfl
theorem k111_92 : cod 111 92 = some (.aload_n 0, 1, 0, 0, 0, 0) := rfl
theorem e111_92 (x : Nat) (ls : mL) (st : List Value) (σ : mS) : ev 111 92 (some (.ref x) :: ls) st σ = ev 111 93 (some (.ref x) :: ls) (.ref x :: st) σ := e_aload1 k111_92 rfl
theorem k111_93 : cod 111 93 = some (.iload_n 1, 1, 0, 0, 0, 0) := rfl
theorem e111_93 (a0 : Option Value) (x : Int32) (ls : mL) (st : List Value) (σ : mS) : ev 111 93 (a0 :: some (.int x) :: ls) st σ = ev 111 94 (a0 :: some (.int x) :: ls) (.int x :: st) σ := e_iload1 k111_93 rfl
theorem k111_94 : cod 111 94 = some (.iload_n 2, 1, 0, 0, 0, 0) := rfl
theorem e111_94 (a0 a1 : Option Value) (x : Int32) (ls : mL) (st : List Value) (σ : mS) : ev 111 94 (a0 :: a1 :: some (.int x) :: ls) st σ = ev 111 95 (a0 :: a1 :: some (.int x) :: ls) (.int x :: st) σ := e_iload1 k111_94 rfl
theorem k111_95 : cod 111 95 = some (.iload 5, 2, 0, 0, 0, 0) := rfl
theorem e111_95 (a0 a1 a2 a3 a4 : Option Value) (x : Int32) (ls : mL) (st : List Value) (σ : mS) : ev 111 95 (a0 :: a1 :: a2 :: a3 :: a4 :: some (.int x) :: ls) st σ = ev 111 97 (a0 :: a1 :: a2 :: a3 :: a4 :: some (.int x) :: ls) (.int x :: st) σ := e_iload0 k111_95 rfl
theorem k111_97 : cod 111 97 = some (.iload_n 3, 1, 0, 0, 0, 0) := rfl
theorem e111_97 (a0 a1 a2 : Option Value) (x : Int32) (ls : mL) (st : List Value) (σ : mS) : ev 111 97 (a0 :: a1 :: a2 :: some (.int x) :: ls) st σ = ev 111 98 (a0 :: a1 :: a2 :: some (.int x) :: ls) (.int x :: st) σ := e_iload1 k111_97 rfl
theorem k111_98 : cod 111 98 = some (.invokevirtual 206, 3, 116, 4, 0, 7) := rfl
theorem e111_98 (t : Nat) (x0 : Int32) (x1 : Int32) (x2 : Int32) (x3 : Int32) (ls : mL) (st : List Value) (σ : mS) (hm : mCat st ≤ 8) : ev 111 98 ls (.int x3 :: .int x2 :: .int x1 :: .int x0 :: .ref t :: st) σ = isC (σ.1 t) 7 ((evM 116 [.ref t, .int x0, .int x1, .int x2, .int x3] σ).bind fun z => ev 111 101 ls (z.1.toList ++ st) z.2) := e_callVK k111_98 (by decide) rfl ⟨hm, Nat.le_of_ble_eq_true rfl⟩
theorem k111_101 : cod 111 101 = some (.iload 5, 2, 0, 0, 0, 0) := rfl
theorem e111_101 (a0 a1 a2 a3 a4 : Option Value) (x : Int32) (ls : mL) (st : List Value) (σ : mS) : ev 111 101 (a0 :: a1 :: a2 :: a3 :: a4 :: some (.int x) :: ls) st σ = ev 111 103 (a0 :: a1 :: a2 :: a3 :: a4 :: some (.int x) :: ls) (.int x :: st) σ := e_iload0 k111_101 rfl
theorem k111_103 : cod 111 103 = some (.ireturn, 1, 0, 0, 0, 0) := rfl
theorem e111_103 (x : Int32) (ls : mL) (σ : mS) : ev 111 103 ls [.int x] σ = some (some (.int x), σ) := e_iret k111_103 rfl
theorem m111 (t : Nat) (x0 : Int32) (x1 : Int32) (x2 : Int32) (x3 : Int32) (σ : mS) : evM 111 [.ref t, .int x0, .int x1, .int x2, .int x3] σ = ev 111 0 [some (.ref t), some (.int x0), some (.int x1), some (.int x2), some (.int x3), none, none] [] σ := rfl
theorem k112_0 : cod 112 0 = some (.iload_n 2, 1, 0, 0, 0, 0) := rfl
theorem e112_0 (a0 a1 : Option Value) (x : Int32) (ls : mL) (st : List Value) (σ : mS) : ev 112 0 (a0 :: a1 :: some (.int x) :: ls) st σ = ev 112 1 (a0 :: a1 :: some (.int x) :: ls) (.int x :: st) σ := e_iload1 k112_0 rfl
theorem k112_1 : cod 112 1 = some (.invokestatic 112, 3, 92, 1, 0, 0) := rfl
theorem e112_1 (x0 : Int32) (ls : mL) (st : List Value) (σ : mS) (hm : mCat st ≤ 8) : ev 112 1 ls (.int x0 :: st) σ = (evM 92 [.int x0] σ).bind fun z => ev 112 4 ls (z.1.toList ++ st) z.2 := e_callS k112_1 (by decide) rfl ⟨hm, Nat.le_of_ble_eq_true rfl⟩
theorem k112_4 : cod 112 4 = some (.ifCond .eq (27), 3, 31, 0, 0, 0) := rfl
theorem e112_4 (x : Int32) (ls : mL) (st : List Value) (σ : mS) : ev 112 4 ls (.int x :: st) σ = if x = 0 then ev 112 31 ls st σ else ev 112 7 ls st σ := e_if_eq k112_4
theorem k112_7 : cod 112 7 = some (.iload_n 3, 1, 0, 0, 0, 0) := rfl
theorem e112_7 (a0 a1 a2 : Option Value) (x : Int32) (ls : mL) (st : List Value) (σ : mS) : ev 112 7 (a0 :: a1 :: a2 :: some (.int x) :: ls) st σ = ev 112 8 (a0 :: a1 :: a2 :: some (.int x) :: ls) (.int x :: st) σ := e_iload1 k112_7 rfl
theorem k112_8 : cod 112 8 = some (.aload_n 0, 1, 0, 0, 0, 0) := rfl
theorem e112_8 (x : Nat) (ls : mL) (st : List Value) (σ : mS) : ev 112 8 (some (.ref x) :: ls) st σ = ev 112 9 (some (.ref x) :: ls) (.ref x :: st) σ := e_aload1 k112_8 rfl
theorem k112_9 : cod 112 9 = some (.getfield 26, 3, 7, 2, 0, 3) := rfl
theorem e112_9 (t : Nat) (ls : mL) (st : List Value) (σ : mS) : ev 112 9 ls (.ref t :: st) σ = gfK (σ.1 t) 7 2 (fun v => ev 112 12 ls (v :: st) σ) := e_getf k112_9
theorem k112_12 : cod 112 12 = some (.aload_n 0, 1, 0, 0, 0, 0) := rfl
theorem e112_12 (x : Nat) (ls : mL) (st : List Value) (σ : mS) : ev 112 12 (some (.ref x) :: ls) st σ = ev 112 13 (some (.ref x) :: ls) (.ref x :: st) σ := e_aload1 k112_12 rfl
theorem k112_13 : cod 112 13 = some (.getfield 36, 3, 7, 4, 0, 3) := rfl
theorem e112_13 (t : Nat) (ls : mL) (st : List Value) (σ : mS) : ev 112 13 ls (.ref t :: st) σ = gfK (σ.1 t) 7 4 (fun v => ev 112 16 ls (v :: st) σ) := e_getf k112_13
theorem k112_16 : cod 112 16 = some (.getfield 174, 3, 0, 1, 1, 3) := rfl
theorem e112_16 (t : Nat) (ls : mL) (st : List Value) (σ : mS) : ev 112 16 ls (.ref t :: st) σ = gfK (σ.1 t) 0 1 (fun v => ev 112 19 ls (v :: st) σ) := e_getf k112_16
theorem k112_19 : cod 112 19 = some (.iload_n 1, 1, 0, 0, 0, 0) := rfl
theorem e112_19 (a0 : Option Value) (x : Int32) (ls : mL) (st : List Value) (σ : mS) : ev 112 19 (a0 :: some (.int x) :: ls) st σ = ev 112 20 (a0 :: some (.int x) :: ls) (.int x :: st) σ := e_iload1 k112_19 rfl
theorem k112_20 : cod 112 20 = some (.iconst 0, 1, 0, 0, 0, 0) := rfl
theorem e112_20 (ls : mL) (st : List Value) (σ : mS) : ev 112 20 ls st σ = ev 112 21 ls (.int 0 :: st) σ := e_iconst 0 k112_20 (by decide)
theorem k112_21 : cod 112 21 = some (.invokevirtual 160, 3, 38, 2, 0, 3) := rfl
theorem e112_21 (t : Nat) (x0 : Int32) (x1 : Int32) (ls : mL) (st : List Value) (σ : mS) (hm : mCat st ≤ 8) : ev 112 21 ls (.int x1 :: .int x0 :: .ref t :: st) σ = isC (σ.1 t) 3 ((evM 38 [.ref t, .int x0, .int x1] σ).bind fun z => ev 112 24 ls (z.1.toList ++ st) z.2) := e_callVK k112_21 (by decide) rfl ⟨hm, Nat.le_of_ble_eq_true rfl⟩
theorem k112_24 : cod 112 24 = some (.iload_n 2, 1, 0, 0, 0, 0) := rfl
theorem e112_24 (a0 a1 : Option Value) (x : Int32) (ls : mL) (st : List Value) (σ : mS) : ev 112 24 (a0 :: a1 :: some (.int x) :: ls) st σ = ev 112 25 (a0 :: a1 :: some (.int x) :: ls) (.int x :: st) σ := e_iload1 k112_24 rfl
theorem k112_25 : cod 112 25 = some (.invokevirtual 115, 3, 62, 2, 0, 6) := rfl
theorem e112_25 (t : Nat) (x0 : Int32) (x1 : Int32) (ls : mL) (st : List Value) (σ : mS) (hm : mCat st ≤ 8) : ev 112 25 ls (.int x1 :: .int x0 :: .ref t :: st) σ = isC (σ.1 t) 6 ((evM 62 [.ref t, .int x0, .int x1] σ).bind fun z => ev 112 28 ls (z.1.toList ++ st) z.2) := e_callVK k112_25 (by decide) rfl ⟨hm, Nat.le_of_ble_eq_true rfl⟩
theorem k112_28 : cod 112 28 = some (.if_icmp .lt (5), 3, 33, 0, 0, 0) := rfl
theorem e112_28 (x y : Int32) (ls : mL) (st : List Value) (σ : mS) : ev 112 28 ls (.int y :: .int x :: st) σ = if x < y then ev 112 33 ls st σ else ev 112 31 ls st σ := e_ic_lt k112_28
theorem k112_31 : cod 112 31 = some (.iconst 1, 1, 0, 0, 0, 0) := rfl
theorem e112_31 (ls : mL) (st : List Value) (σ : mS) : ev 112 31 ls st σ = ev 112 32 ls (.int 1 :: st) σ := e_iconst 1 k112_31 (by decide)
theorem k112_32 : cod 112 32 = some (.ireturn, 1, 0, 0, 0, 0) := rfl
theorem e112_32 (x : Int32) (ls : mL) (σ : mS) : ev 112 32 ls [.int x] σ = some (some (.int x), σ) := e_iret k112_32 rfl
theorem k112_33 : cod 112 33 = some (.aload_n 0, 1, 0, 0, 0, 0) := rfl
theorem e112_33 (x : Nat) (ls : mL) (st : List Value) (σ : mS) : ev 112 33 (some (.ref x) :: ls) st σ = ev 112 34 (some (.ref x) :: ls) (.ref x :: st) σ := e_aload1 k112_33 rfl
theorem k112_34 : cod 112 34 = some (.getfield 36, 3, 7, 4, 0, 3) := rfl
theorem e112_34 (t : Nat) (ls : mL) (st : List Value) (σ : mS) : ev 112 34 ls (.ref t :: st) σ = gfK (σ.1 t) 7 4 (fun v => ev 112 37 ls (v :: st) σ) := e_getf k112_34
theorem k112_37 : cod 112 37 = some (.iload_n 1, 1, 0, 0, 0, 0) := rfl
theorem e112_37 (a0 : Option Value) (x : Int32) (ls : mL) (st : List Value) (σ : mS) : ev 112 37 (a0 :: some (.int x) :: ls) st σ = ev 112 38 (a0 :: some (.int x) :: ls) (.int x :: st) σ := e_iload1 k112_37 rfl
theorem k112_38 : cod 112 38 = some (.iload_n 2, 1, 0, 0, 0, 0) := rfl
theorem e112_38 (a0 a1 : Option Value) (x : Int32) (ls : mL) (st : List Value) (σ : mS) : ev 112 38 (a0 :: a1 :: some (.int x) :: ls) st σ = ev 112 39 (a0 :: a1 :: some (.int x) :: ls) (.int x :: st) σ := e_iload1 k112_38 rfl
theorem k112_39 : cod 112 39 = some (.invokevirtual 301, 3, 9, 2, 0, 0) := rfl
theorem e112_39 (t : Nat) (x0 : Int32) (x1 : Int32) (ls : mL) (st : List Value) (σ : mS) (hm : mCat st ≤ 8) : ev 112 39 ls (.int x1 :: .int x0 :: .ref t :: st) σ = isC (σ.1 t) 0 ((evM 9 [.ref t, .int x0, .int x1] σ).bind fun z => ev 112 42 ls (z.1.toList ++ st) z.2) := e_callVK k112_39 (by decide) rfl ⟨hm, Nat.le_of_ble_eq_true rfl⟩
theorem k112_42 : cod 112 42 = some (.ifCond .ge (5), 3, 47, 0, 0, 0) := rfl
theorem e112_42 (x : Int32) (ls : mL) (st : List Value) (σ : mS) : ev 112 42 ls (.int x :: st) σ = if 0 ≤ x then ev 112 47 ls st σ else ev 112 45 ls st σ := e_if_ge k112_42
theorem k112_45 : cod 112 45 = some (.iconst 2, 1, 0, 0, 0, 0) := rfl
theorem e112_45 (ls : mL) (st : List Value) (σ : mS) : ev 112 45 ls st σ = ev 112 46 ls (.int 2 :: st) σ := e_iconst 2 k112_45 (by decide)
theorem k112_46 : cod 112 46 = some (.ireturn, 1, 0, 0, 0, 0) := rfl
theorem e112_46 (x : Int32) (ls : mL) (σ : mS) : ev 112 46 ls [.int x] σ = some (some (.int x), σ) := e_iret k112_46 rfl
theorem k112_47 : cod 112 47 = some (.aload_n 0, 1, 0, 0, 0, 0) := rfl
theorem e112_47 (x : Nat) (ls : mL) (st : List Value) (σ : mS) : ev 112 47 (some (.ref x) :: ls) st σ = ev 112 48 (some (.ref x) :: ls) (.ref x :: st) σ := e_aload1 k112_47 rfl
theorem k112_48 : cod 112 48 = some (.iload_n 2, 1, 0, 0, 0, 0) := rfl
theorem e112_48 (a0 a1 : Option Value) (x : Int32) (ls : mL) (st : List Value) (σ : mS) : ev 112 48 (a0 :: a1 :: some (.int x) :: ls) st σ = ev 112 49 (a0 :: a1 :: some (.int x) :: ls) (.int x :: st) σ := e_iload1 k112_48 rfl
theorem k112_49 : cod 112 49 = some (.invokevirtual 304, 3, 113, 1, 0, 7) := rfl
theorem e112_49 (t : Nat) (x0 : Int32) (ls : mL) (st : List Value) (σ : mS) (hm : mCat st ≤ 8) : ev 112 49 ls (.int x0 :: .ref t :: st) σ = isC (σ.1 t) 7 ((evM 113 [.ref t, .int x0] σ).bind fun z => ev 112 52 ls (z.1.toList ++ st) z.2) := e_callVK k112_49 (by decide) rfl ⟨hm, Nat.le_of_ble_eq_true rfl⟩
theorem k112_52 : cod 112 52 = some (.ifCond .eq (20), 3, 72, 0, 0, 0) := rfl
theorem e112_52 (x : Int32) (ls : mL) (st : List Value) (σ : mS) : ev 112 52 ls (.int x :: st) σ = if x = 0 then ev 112 72 ls st σ else ev 112 55 ls st σ := e_if_eq k112_52
theorem k112_55 : cod 112 55 = some (.aload_n 0, 1, 0, 0, 0, 0) := rfl
theorem e112_55 (x : Nat) (ls : mL) (st : List Value) (σ : mS) : ev 112 55 (some (.ref x) :: ls) st σ = ev 112 56 (some (.ref x) :: ls) (.ref x :: st) σ := e_aload1 k112_55 rfl
theorem k112_56 : cod 112 56 = some (.getfield 36, 3, 7, 4, 0, 3) := rfl
theorem e112_56 (t : Nat) (ls : mL) (st : List Value) (σ : mS) : ev 112 56 ls (.ref t :: st) σ = gfK (σ.1 t) 7 4 (fun v => ev 112 59 ls (v :: st) σ) := e_getf k112_56
theorem k112_59 : cod 112 59 = some (.getfield 174, 3, 0, 1, 1, 3) := rfl
theorem e112_59 (t : Nat) (ls : mL) (st : List Value) (σ : mS) : ev 112 59 ls (.ref t :: st) σ = gfK (σ.1 t) 0 1 (fun v => ev 112 62 ls (v :: st) σ) := e_getf k112_59
theorem k112_62 : cod 112 62 = some (.iload_n 1, 1, 0, 0, 0, 0) := rfl
theorem e112_62 (a0 : Option Value) (x : Int32) (ls : mL) (st : List Value) (σ : mS) : ev 112 62 (a0 :: some (.int x) :: ls) st σ = ev 112 63 (a0 :: some (.int x) :: ls) (.int x :: st) σ := e_iload1 k112_62 rfl
theorem k112_63 : cod 112 63 = some (.iconst 2, 1, 0, 0, 0, 0) := rfl
theorem e112_63 (ls : mL) (st : List Value) (σ : mS) : ev 112 63 ls st σ = ev 112 64 ls (.int 2 :: st) σ := e_iconst 2 k112_63 (by decide)
theorem k112_64 : cod 112 64 = some (.invokevirtual 160, 3, 38, 2, 0, 3) := rfl
theorem e112_64 (t : Nat) (x0 : Int32) (x1 : Int32) (ls : mL) (st : List Value) (σ : mS) (hm : mCat st ≤ 8) : ev 112 64 ls (.int x1 :: .int x0 :: .ref t :: st) σ = isC (σ.1 t) 3 ((evM 38 [.ref t, .int x0, .int x1] σ).bind fun z => ev 112 67 ls (z.1.toList ++ st) z.2) := e_callVK k112_64 (by decide) rfl ⟨hm, Nat.le_of_ble_eq_true rfl⟩
theorem k112_67 : cod 112 67 = some (.ifCond .gt (5), 3, 72, 0, 0, 0) := rfl
theorem e112_67 (x : Int32) (ls : mL) (st : List Value) (σ : mS) : ev 112 67 ls (.int x :: st) σ = if 0 < x then ev 112 72 ls st σ else ev 112 70 ls st σ := e_if_gt k112_67
theorem k112_70 : cod 112 70 = some (.iconst 3, 1, 0, 0, 0, 0) := rfl
theorem e112_70 (ls : mL) (st : List Value) (σ : mS) : ev 112 70 ls st σ = ev 112 71 ls (.int 3 :: st) σ := e_iconst 3 k112_70 (by decide)
theorem k112_71 : cod 112 71 = some (.ireturn, 1, 0, 0, 0, 0) := rfl
theorem e112_71 (x : Int32) (ls : mL) (σ : mS) : ev 112 71 ls [.int x] σ = some (some (.int x), σ) := e_iret k112_71 rfl
theorem k112_72 : cod 112 72 = some (.aload_n 0, 1, 0, 0, 0, 0) := rfl
theorem e112_72 (x : Nat) (ls : mL) (st : List Value) (σ : mS) : ev 112 72 (some (.ref x) :: ls) st σ = ev 112 73 (some (.ref x) :: ls) (.ref x :: st) σ := e_aload1 k112_72 rfl
theorem k112_73 : cod 112 73 = some (.getfield 36, 3, 7, 4, 0, 3) := rfl
theorem e112_73 (t : Nat) (ls : mL) (st : List Value) (σ : mS) : ev 112 73 ls (.ref t :: st) σ = gfK (σ.1 t) 7 4 (fun v => ev 112 76 ls (v :: st) σ) := e_getf k112_73
theorem k112_76 : cod 112 76 = some (.aload_n 0, 1, 0, 0, 0, 0) := rfl
theorem e112_76 (x : Nat) (ls : mL) (st : List Value) (σ : mS) : ev 112 76 (some (.ref x) :: ls) st σ = ev 112 77 (some (.ref x) :: ls) (.ref x :: st) σ := e_aload1 k112_76 rfl
theorem k112_77 : cod 112 77 = some (.getfield 36, 3, 7, 4, 0, 3) := rfl
theorem e112_77 (t : Nat) (ls : mL) (st : List Value) (σ : mS) : ev 112 77 ls (.ref t :: st) σ = gfK (σ.1 t) 7 4 (fun v => ev 112 80 ls (v :: st) σ) := e_getf k112_77
theorem k112_80 : cod 112 80 = some (.getfield 174, 3, 0, 1, 1, 3) := rfl
theorem e112_80 (t : Nat) (ls : mL) (st : List Value) (σ : mS) : ev 112 80 ls (.ref t :: st) σ = gfK (σ.1 t) 0 1 (fun v => ev 112 83 ls (v :: st) σ) := e_getf k112_80
theorem k112_83 : cod 112 83 = some (.iload_n 1, 1, 0, 0, 0, 0) := rfl
theorem e112_83 (a0 : Option Value) (x : Int32) (ls : mL) (st : List Value) (σ : mS) : ev 112 83 (a0 :: some (.int x) :: ls) st σ = ev 112 84 (a0 :: some (.int x) :: ls) (.int x :: st) σ := e_iload1 k112_83 rfl
theorem k112_84 : cod 112 84 = some (.iconst 1, 1, 0, 0, 0, 0) := rfl
theorem e112_84 (ls : mL) (st : List Value) (σ : mS) : ev 112 84 ls st σ = ev 112 85 ls (.int 1 :: st) σ := e_iconst 1 k112_84 (by decide)
theorem k112_85 : cod 112 85 = some (.invokevirtual 160, 3, 38, 2, 0, 3) := rfl
theorem e112_85 (t : Nat) (x0 : Int32) (x1 : Int32) (ls : mL) (st : List Value) (σ : mS) (hm : mCat st ≤ 8) : ev 112 85 ls (.int x1 :: .int x0 :: .ref t :: st) σ = isC (σ.1 t) 3 ((evM 38 [.ref t, .int x0, .int x1] σ).bind fun z => ev 112 88 ls (z.1.toList ++ st) z.2) := e_callVK k112_85 (by decide) rfl ⟨hm, Nat.le_of_ble_eq_true rfl⟩
theorem k112_88 : cod 112 88 = some (.aload_n 0, 1, 0, 0, 0, 0) := rfl
theorem e112_88 (x : Nat) (ls : mL) (st : List Value) (σ : mS) : ev 112 88 (some (.ref x) :: ls) st σ = ev 112 89 (some (.ref x) :: ls) (.ref x :: st) σ := e_aload1 k112_88 rfl
theorem k112_89 : cod 112 89 = some (.iload_n 2, 1, 0, 0, 0, 0) := rfl
theorem e112_89 (a0 a1 : Option Value) (x : Int32) (ls : mL) (st : List Value) (σ : mS) : ev 112 89 (a0 :: a1 :: some (.int x) :: ls) st σ = ev 112 90 (a0 :: a1 :: some (.int x) :: ls) (.int x :: st) σ := e_iload1 k112_89 rfl
theorem k112_90 : cod 112 90 = some (.invokevirtual 307, 3, 115, 1, 0, 7) := rfl
theorem e112_90 (t : Nat) (x0 : Int32) (ls : mL) (st : List Value) (σ : mS) (hm : mCat st ≤ 8) : ev 112 90 ls (.int x0 :: .ref t :: st) σ = isC (σ.1 t) 7 ((evM 115 [.ref t, .int x0] σ).bind fun z => ev 112 93 ls (z.1.toList ++ st) z.2) := e_callVK k112_90 (by decide) rfl ⟨hm, Nat.le_of_ble_eq_true rfl⟩
theorem k112_93 : cod 112 93 = some (.invokevirtual 310, 3, 10, 2, 0, 0) := rfl
theorem e112_93 (t : Nat) (x0 : Int32) (x1 : Int32) (ls : mL) (st : List Value) (σ : mS) (hm : mCat st ≤ 8) : ev 112 93 ls (.int x1 :: .int x0 :: .ref t :: st) σ = isC (σ.1 t) 0 ((evM 10 [.ref t, .int x0, .int x1] σ).bind fun z => ev 112 96 ls (z.1.toList ++ st) z.2) := e_callVK k112_93 (by decide) rfl ⟨hm, Nat.le_of_ble_eq_true rfl⟩
theorem k112_96 : cod 112 96 = some (.ifCond .ne (5), 3, 101, 0, 0, 0) := rfl
theorem e112_96 (x : Int32) (ls : mL) (st : List Value) (σ : mS) : ev 112 96 ls (.int x :: st) σ = if x = 0 then ev 112 99 ls st σ else ev 112 101 ls st σ := e_if_ne k112_96
theorem k112_99 : cod 112 99 = some (.iconst 4, 1, 0, 0, 0, 0) := rfl
theorem e112_99 (ls : mL) (st : List Value) (σ : mS) : ev 112 99 ls st σ = ev 112 100 ls (.int 4 :: st) σ := e_iconst 4 k112_99 (by decide)
theorem k112_100 : cod 112 100 = some (.ireturn, 1, 0, 0, 0, 0) := rfl
theorem e112_100 (x : Int32) (ls : mL) (σ : mS) : ev 112 100 ls [.int x] σ = some (some (.int x), σ) := e_iret k112_100 rfl
theorem k112_101 : cod 112 101 = some (.aload_n 0, 1, 0, 0, 0, 0) := rfl
theorem e112_101 (x : Nat) (ls : mL) (st : List Value) (σ : mS) : ev 112 101 (some (.ref x) :: ls) st σ = ev 112 102 (some (.ref x) :: ls) (.ref x :: st) σ := e_aload1 k112_101 rfl
theorem k112_102 : cod 112 102 = some (.getfield 36, 3, 7, 4, 0, 3) := rfl
theorem e112_102 (t : Nat) (ls : mL) (st : List Value) (σ : mS) : ev 112 102 ls (.ref t :: st) σ = gfK (σ.1 t) 7 4 (fun v => ev 112 105 ls (v :: st) σ) := e_getf k112_102
theorem k112_105 : cod 112 105 = some (.getfield 213, 3, 0, 3, 1, 3) := rfl
theorem e112_105 (t : Nat) (ls : mL) (st : List Value) (σ : mS) : ev 112 105 ls (.ref t :: st) σ = gfK (σ.1 t) 0 3 (fun v => ev 112 108 ls (v :: st) σ) := e_getf k112_105
theorem k112_108 : cod 112 108 = some (.invokevirtual 313, 3, 34, 0, 0, 3) := rfl
theorem e112_108 (t : Nat) (ls : mL) (st : List Value) (σ : mS) (hm : mCat st ≤ 8) : ev 112 108 ls (.ref t :: st) σ = isC (σ.1 t) 3 ((evM 34 [.ref t] σ).bind fun z => ev 112 111 ls (z.1.toList ++ st) z.2) := e_callVK k112_108 (by decide) rfl ⟨hm, Nat.le_of_ble_eq_true rfl⟩
theorem k112_111 : cod 112 111 = some (.ifCond .eq (7), 3, 118, 0, 0, 0) := rfl
theorem e112_111 (x : Int32) (ls : mL) (st : List Value) (σ : mS) : ev 112 111 ls (.int x :: st) σ = if x = 0 then ev 112 118 ls st σ else ev 112 114 ls st σ := e_if_eq k112_111
theorem k112_114 : cod 112 114 = some (.iconst 5, 1, 0, 0, 0, 0) := rfl
theorem e112_114 (ls : mL) (st : List Value) (σ : mS) : ev 112 114 ls st σ = ev 112 115 ls (.int 5 :: st) σ := e_iconst 5 k112_114 (by decide)
theorem k112_115 : cod 112 115 = some (.goto (4), 3, 119, 0, 0, 0) := rfl
theorem e112_115 (ls : mL) (st : List Value) (σ : mS) : ev 112 115 ls st σ = ev 112 119 ls st σ := e_goto k112_115
theorem k112_118 : cod 112 118 = some (.iconst 0, 1, 0, 0, 0, 0) := rfl
theorem e112_118 (ls : mL) (st : List Value) (σ : mS) : ev 112 118 ls st σ = ev 112 119 ls (.int 0 :: st) σ := e_iconst 0 k112_118 (by decide)
theorem k112_119 : cod 112 119 = some (.ireturn, 1, 0, 0, 0, 0) := rfl
theorem e112_119 (x : Int32) (ls : mL) (σ : mS) : ev 112 119 ls [.int x] σ = some (some (.int x), σ) := e_iret k112_119 rfl
theorem m112 (t : Nat) (x0 : Int32) (x1 : Int32) (x2 : Int32) (σ : mS) : evM 112 [.ref t, .int x0, .int x1, .int x2] σ = ev 112 0 [some (.ref t), some (.int x0), some (.int x1), some (.int x2)] [] σ := rfl
theorem k113_0 : cod 113 0 = some (.aload_n 0, 1, 0, 0, 0, 0) := rfl
theorem e113_0 (x : Nat) (ls : mL) (st : List Value) (σ : mS) : ev 113 0 (some (.ref x) :: ls) st σ = ev 113 1 (some (.ref x) :: ls) (.ref x :: st) σ := e_aload1 k113_0 rfl
theorem k113_1 : cod 113 1 = some (.iload_n 1, 1, 0, 0, 0, 0) := rfl
theorem e113_1 (a0 : Option Value) (x : Int32) (ls : mL) (st : List Value) (σ : mS) : ev 113 1 (a0 :: some (.int x) :: ls) st σ = ev 113 2 (a0 :: some (.int x) :: ls) (.int x :: st) σ := e_iload1 k113_1 rfl
theorem k113_2 : cod 113 2 = some (.invokevirtual 216, 3, 114, 1, 0, 7) := rfl
theorem e113_2 (t : Nat) (x0 : Int32) (ls : mL) (st : List Value) (σ : mS) (hm : mCat st ≤ 8) : ev 113 2 ls (.int x0 :: .ref t :: st) σ = isC (σ.1 t) 7 ((evM 114 [.ref t, .int x0] σ).bind fun z => ev 113 5 ls (z.1.toList ++ st) z.2) := e_callVK k113_2 (by decide) rfl ⟨hm, Nat.le_of_ble_eq_true rfl⟩
theorem k113_5 : cod 113 5 = some (.iconst 2, 1, 0, 0, 0, 0) := rfl
theorem e113_5 (ls : mL) (st : List Value) (σ : mS) : ev 113 5 ls st σ = ev 113 6 ls (.int 2 :: st) σ := e_iconst 2 k113_5 (by decide)
theorem k113_6 : cod 113 6 = some (.if_icmp .eq (12), 3, 18, 0, 0, 0) := rfl
theorem e113_6 (x y : Int32) (ls : mL) (st : List Value) (σ : mS) : ev 113 6 ls (.int y :: .int x :: st) σ = if x = y then ev 113 18 ls st σ else ev 113 9 ls st σ := e_ic_eq k113_6
theorem k113_9 : cod 113 9 = some (.aload_n 0, 1, 0, 0, 0, 0) := rfl
theorem e113_9 (x : Nat) (ls : mL) (st : List Value) (σ : mS) : ev 113 9 (some (.ref x) :: ls) st σ = ev 113 10 (some (.ref x) :: ls) (.ref x :: st) σ := e_aload1 k113_9 rfl
theorem k113_10 : cod 113 10 = some (.iload_n 1, 1, 0, 0, 0, 0) := rfl
theorem e113_10 (a0 : Option Value) (x : Int32) (ls : mL) (st : List Value) (σ : mS) : ev 113 10 (a0 :: some (.int x) :: ls) st σ = ev 113 11 (a0 :: some (.int x) :: ls) (.int x :: st) σ := e_iload1 k113_10 rfl
theorem k113_11 : cod 113 11 = some (.invokevirtual 216, 3, 114, 1, 0, 7) := rfl
theorem e113_11 (t : Nat) (x0 : Int32) (ls : mL) (st : List Value) (σ : mS) (hm : mCat st ≤ 8) : ev 113 11 ls (.int x0 :: .ref t :: st) σ = isC (σ.1 t) 7 ((evM 114 [.ref t, .int x0] σ).bind fun z => ev 113 14 ls (z.1.toList ++ st) z.2) := e_callVK k113_11 (by decide) rfl ⟨hm, Nat.le_of_ble_eq_true rfl⟩
theorem k113_14 : cod 113 14 = some (.iconst 3, 1, 0, 0, 0, 0) := rfl
theorem e113_14 (ls : mL) (st : List Value) (σ : mS) : ev 113 14 ls st σ = ev 113 15 ls (.int 3 :: st) σ := e_iconst 3 k113_14 (by decide)
theorem k113_15 : cod 113 15 = some (.if_icmp .ne (7), 3, 22, 0, 0, 0) := rfl
theorem e113_15 (x y : Int32) (ls : mL) (st : List Value) (σ : mS) : ev 113 15 ls (.int y :: .int x :: st) σ = if x = y then ev 113 18 ls st σ else ev 113 22 ls st σ := e_ic_ne k113_15
theorem k113_18 : cod 113 18 = some (.iconst 1, 1, 0, 0, 0, 0) := rfl
theorem e113_18 (ls : mL) (st : List Value) (σ : mS) : ev 113 18 ls st σ = ev 113 19 ls (.int 1 :: st) σ := e_iconst 1 k113_18 (by decide)
theorem k113_19 : cod 113 19 = some (.goto (4), 3, 23, 0, 0, 0) := rfl
theorem e113_19 (ls : mL) (st : List Value) (σ : mS) : ev 113 19 ls st σ = ev 113 23 ls st σ := e_goto k113_19
theorem k113_22 : cod 113 22 = some (.iconst 0, 1, 0, 0, 0, 0) := rfl
theorem e113_22 (ls : mL) (st : List Value) (σ : mS) : ev 113 22 ls st σ = ev 113 23 ls (.int 0 :: st) σ := e_iconst 0 k113_22 (by decide)
theorem k113_23 : cod 113 23 = some (.ireturn, 1, 0, 0, 0, 0) := rfl
theorem e113_23 (x : Int32) (ls : mL) (σ : mS) : ev 113 23 ls [.int x] σ = if x = 0 ∨ x = 1 then some (some (.int x), σ) else none := e_zret k113_23 rfl
theorem e113_23b0 (ls : mL) (σ : mS) : ev 113 23 ls [.int 0] σ = some (some (.int 0), σ) := (e_zret k113_23 rfl).trans (if_pos (Or.inl rfl))
theorem e113_23b1 (ls : mL) (σ : mS) : ev 113 23 ls [.int 1] σ = some (some (.int 1), σ) := (e_zret k113_23 rfl).trans (if_pos (Or.inr rfl))
theorem m113 (t : Nat) (x0 : Int32) (σ : mS) : evM 113 [.ref t, .int x0] σ = ev 113 0 [some (.ref t), some (.int x0)] [] σ := rfl
theorem k114_0 : cod 114 0 = some (.iload_n 1, 1, 0, 0, 0, 0) := rfl
theorem e114_0 (a0 : Option Value) (x : Int32) (ls : mL) (st : List Value) (σ : mS) : ev 114 0 (a0 :: some (.int x) :: ls) st σ = ev 114 1 (a0 :: some (.int x) :: ls) (.int x :: st) σ := e_iload1 k114_0 rfl
theorem k114_1 : cod 114 1 = some (.invokestatic 112, 3, 92, 1, 0, 0) := rfl
theorem e114_1 (x0 : Int32) (ls : mL) (st : List Value) (σ : mS) (hm : mCat st ≤ 8) : ev 114 1 ls (.int x0 :: st) σ = (evM 92 [.int x0] σ).bind fun z => ev 114 4 ls (z.1.toList ++ st) z.2 := e_callS k114_1 (by decide) rfl ⟨hm, Nat.le_of_ble_eq_true rfl⟩
theorem k114_4 : cod 114 4 = some (.ifCond .eq (12), 3, 16, 0, 0, 0) := rfl
theorem e114_4 (x : Int32) (ls : mL) (st : List Value) (σ : mS) : ev 114 4 ls (.int x :: st) σ = if x = 0 then ev 114 16 ls st σ else ev 114 7 ls st σ := e_if_eq k114_4
theorem k114_7 : cod 114 7 = some (.aload_n 0, 1, 0, 0, 0, 0) := rfl
theorem e114_7 (x : Nat) (ls : mL) (st : List Value) (σ : mS) : ev 114 7 (some (.ref x) :: ls) st σ = ev 114 8 (some (.ref x) :: ls) (.ref x :: st) σ := e_aload1 k114_7 rfl
theorem k114_8 : cod 114 8 = some (.getfield 50, 3, 7, 8, 0, 3) := rfl
theorem e114_8 (t : Nat) (ls : mL) (st : List Value) (σ : mS) : ev 114 8 ls (.ref t :: st) σ = gfK (σ.1 t) 7 8 (fun v => ev 114 11 ls (v :: st) σ) := e_getf k114_8
theorem k114_11 : cod 114 11 = some (.iload_n 1, 1, 0, 0, 0, 0) := rfl
theorem e114_11 (a0 : Option Value) (x : Int32) (ls : mL) (st : List Value) (σ : mS) : ev 114 11 (a0 :: some (.int x) :: ls) st σ = ev 114 12 (a0 :: some (.int x) :: ls) (.int x :: st) σ := e_iload1 k114_11 rfl
theorem k114_12 : cod 114 12 = some (.iaload, 1, 0, 0, 0, 0) := rfl
theorem e114_12 (j : Int32) (t : Nat) (ls : mL) (st : List Value) (σ : mS) : ev 114 12 ls (.int j :: .ref t :: st) σ = alK (σ.1 t) 0 j (fun v => ev 114 13 ls (.int v :: st) σ) := e_iald k114_12
theorem k114_13 : cod 114 13 = some (.goto (4), 3, 17, 0, 0, 0) := rfl
theorem e114_13 (ls : mL) (st : List Value) (σ : mS) : ev 114 13 ls st σ = ev 114 17 ls st σ := e_goto k114_13
theorem k114_16 : cod 114 16 = some (.iconst 0, 1, 0, 0, 0, 0) := rfl
theorem e114_16 (ls : mL) (st : List Value) (σ : mS) : ev 114 16 ls st σ = ev 114 17 ls (.int 0 :: st) σ := e_iconst 0 k114_16 (by decide)
theorem k114_17 : cod 114 17 = some (.ireturn, 1, 0, 0, 0, 0) := rfl
theorem e114_17 (x : Int32) (ls : mL) (σ : mS) : ev 114 17 ls [.int x] σ = some (some (.int x), σ) := e_iret k114_17 rfl
theorem m114 (t : Nat) (x0 : Int32) (σ : mS) : evM 114 [.ref t, .int x0] σ = ev 114 0 [some (.ref t), some (.int x0)] [] σ := rfl
theorem k115_0 : cod 115 0 = some (.aload_n 0, 1, 0, 0, 0, 0) := rfl
theorem e115_0 (x : Nat) (ls : mL) (st : List Value) (σ : mS) : ev 115 0 (some (.ref x) :: ls) st σ = ev 115 1 (some (.ref x) :: ls) (.ref x :: st) σ := e_aload1 k115_0 rfl
theorem k115_1 : cod 115 1 = some (.iload_n 1, 1, 0, 0, 0, 0) := rfl
theorem e115_1 (a0 : Option Value) (x : Int32) (ls : mL) (st : List Value) (σ : mS) : ev 115 1 (a0 :: some (.int x) :: ls) st σ = ev 115 2 (a0 :: some (.int x) :: ls) (.int x :: st) σ := e_iload1 k115_1 rfl
theorem k115_2 : cod 115 2 = some (.invokevirtual 216, 3, 114, 1, 0, 7) := rfl
theorem e115_2 (t : Nat) (x0 : Int32) (ls : mL) (st : List Value) (σ : mS) (hm : mCat st ≤ 8) : ev 115 2 ls (.int x0 :: .ref t :: st) σ = isC (σ.1 t) 7 ((evM 114 [.ref t, .int x0] σ).bind fun z => ev 115 5 ls (z.1.toList ++ st) z.2) := e_callVK k115_2 (by decide) rfl ⟨hm, Nat.le_of_ble_eq_true rfl⟩
theorem k115_5 : cod 115 5 = some (.aload_n 0, 1, 0, 0, 0, 0) := rfl
theorem e115_5 (x : Nat) (ls : mL) (st : List Value) (σ : mS) : ev 115 5 (some (.ref x) :: ls) st σ = ev 115 6 (some (.ref x) :: ls) (.ref x :: st) σ := e_aload1 k115_5 rfl
theorem k115_6 : cod 115 6 = some (.iload_n 1, 1, 0, 0, 0, 0) := rfl
theorem e115_6 (a0 : Option Value) (x : Int32) (ls : mL) (st : List Value) (σ : mS) : ev 115 6 (a0 :: some (.int x) :: ls) st σ = ev 115 7 (a0 :: some (.int x) :: ls) (.int x :: st) σ := e_iload1 k115_6 rfl
theorem k115_7 : cod 115 7 = some (.invokevirtual 284, 3, 99, 1, 0, 7) := rfl
theorem e115_7 (t : Nat) (x0 : Int32) (ls : mL) (st : List Value) (σ : mS) (hm : mCat st ≤ 8) : ev 115 7 ls (.int x0 :: .ref t :: st) σ = isC (σ.1 t) 7 ((evM 99 [.ref t, .int x0] σ).bind fun z => ev 115 10 ls (z.1.toList ++ st) z.2) := e_callVK k115_7 (by decide) rfl ⟨hm, Nat.le_of_ble_eq_true rfl⟩
theorem k115_10 : cod 115 10 = some (.invokestatic 148, 3, 218, 2, 0, 0) := rfl
theorem e115_10 (x0 : Int32) (x1 : Int32) (ls : mL) (st : List Value) (σ : mS) (hm : mCat st ≤ 8) : ev 115 10 ls (.int x1 :: .int x0 :: st) σ = (evM 218 [.int x0, .int x1] σ).bind fun z => ev 115 13 ls (z.1.toList ++ st) z.2 := e_callS k115_10 (by decide) rfl ⟨hm, Nat.le_of_ble_eq_true rfl⟩
theorem k115_13 : cod 115 13 = some (.ireturn, 1, 0, 0, 0, 0) := rfl
theorem e115_13 (x : Int32) (ls : mL) (σ : mS) : ev 115 13 ls [.int x] σ = some (some (.int x), σ) := e_iret k115_13 rfl
theorem m115 (t : Nat) (x0 : Int32) (σ : mS) : evM 115 [.ref t, .int x0] σ = ev 115 0 [some (.ref t), some (.int x0)] [] σ := rfl
theorem k116_0 : cod 116 0 = some (.aload_n 0, 1, 0, 0, 0, 0) := rfl
theorem e116_0 (x : Nat) (ls : mL) (st : List Value) (σ : mS) : ev 116 0 (some (.ref x) :: ls) st σ = ev 116 1 (some (.ref x) :: ls) (.ref x :: st) σ := e_aload1 k116_0 rfl
theorem k116_1 : cod 116 1 = some (.getfield 36, 3, 7, 4, 0, 3) := rfl
theorem e116_1 (t : Nat) (ls : mL) (st : List Value) (σ : mS) : ev 116 1 ls (.ref t :: st) σ = gfK (σ.1 t) 7 4 (fun v => ev 116 4 ls (v :: st) σ) := e_getf k116_1
theorem k116_4 : cod 116 4 = some (.getfield 174, 3, 0, 1, 1, 3) := rfl
theorem e116_4 (t : Nat) (ls : mL) (st : List Value) (σ : mS) : ev 116 4 ls (.ref t :: st) σ = gfK (σ.1 t) 0 1 (fun v => ev 116 7 ls (v :: st) σ) := e_getf k116_4
theorem k116_7 : cod 116 7 = some (.iload_n 1, 1, 0, 0, 0, 0) := rfl
theorem e116_7 (a0 : Option Value) (x : Int32) (ls : mL) (st : List Value) (σ : mS) : ev 116 7 (a0 :: some (.int x) :: ls) st σ = ev 116 8 (a0 :: some (.int x) :: ls) (.int x :: st) σ := e_iload1 k116_7 rfl
theorem k116_8 : cod 116 8 = some (.iconst 0, 1, 0, 0, 0, 0) := rfl
theorem e116_8 (ls : mL) (st : List Value) (σ : mS) : ev 116 8 ls st σ = ev 116 9 ls (.int 0 :: st) σ := e_iconst 0 k116_8 (by decide)
theorem k116_9 : cod 116 9 = some (.invokevirtual 160, 3, 38, 2, 0, 3) := rfl
theorem e116_9 (t : Nat) (x0 : Int32) (x1 : Int32) (ls : mL) (st : List Value) (σ : mS) (hm : mCat st ≤ 8) : ev 116 9 ls (.int x1 :: .int x0 :: .ref t :: st) σ = isC (σ.1 t) 3 ((evM 38 [.ref t, .int x0, .int x1] σ).bind fun z => ev 116 12 ls (z.1.toList ++ st) z.2) := e_callVK k116_9 (by decide) rfl ⟨hm, Nat.le_of_ble_eq_true rfl⟩
theorem k116_12 : cod 116 12 = some (.istore 5, 2, 0, 0, 0, 0) := rfl
theorem e116_12i (a0 a1 a2 a3 : Option Value) (y : Int32) (o : Option Value) (x : Int32) (ls : mL) (st : List Value) (σ : mS) : ev 116 12 (a0 :: a1 :: a2 :: a3 :: some (.int y) :: o :: ls) (.int x :: st) σ = ev 116 14 (a0 :: a1 :: a2 :: a3 :: some (.int y) :: some (.int x) :: ls) st σ := e_istore0 k116_12 (Nat.le_add_left 6 ls.length)
theorem e116_12n (a0 a1 a2 a3 : Option Value) (o : Option Value) (x : Int32) (ls : mL) (st : List Value) (σ : mS) : ev 116 12 (a0 :: a1 :: a2 :: a3 :: none :: o :: ls) (.int x :: st) σ = ev 116 14 (a0 :: a1 :: a2 :: a3 :: none :: some (.int x) :: ls) st σ := e_istore0 k116_12 (Nat.le_add_left 6 ls.length)
theorem e116_12r (a0 a1 a2 a3 : Option Value) (y : Nat) (o : Option Value) (x : Int32) (ls : mL) (st : List Value) (σ : mS) : ev 116 12 (a0 :: a1 :: a2 :: a3 :: some (.ref y) :: o :: ls) (.int x :: st) σ = ev 116 14 (a0 :: a1 :: a2 :: a3 :: some (.ref y) :: some (.int x) :: ls) st σ := e_istore0 k116_12 (Nat.le_add_left 6 ls.length)
theorem k116_14 : cod 116 14 = some (.aload_n 0, 1, 0, 0, 0, 0) := rfl
theorem e116_14 (x : Nat) (ls : mL) (st : List Value) (σ : mS) : ev 116 14 (some (.ref x) :: ls) st σ = ev 116 15 (some (.ref x) :: ls) (.ref x :: st) σ := e_aload1 k116_14 rfl
theorem k116_15 : cod 116 15 = some (.getfield 26, 3, 7, 2, 0, 3) := rfl
theorem e116_15 (t : Nat) (ls : mL) (st : List Value) (σ : mS) : ev 116 15 ls (.ref t :: st) σ = gfK (σ.1 t) 7 2 (fun v => ev 116 18 ls (v :: st) σ) := e_getf k116_15
theorem k116_18 : cod 116 18 = some (.iload 5, 2, 0, 0, 0, 0) := rfl
theorem e116_18 (a0 a1 a2 a3 a4 : Option Value) (x : Int32) (ls : mL) (st : List Value) (σ : mS) : ev 116 18 (a0 :: a1 :: a2 :: a3 :: a4 :: some (.int x) :: ls) st σ = ev 116 20 (a0 :: a1 :: a2 :: a3 :: a4 :: some (.int x) :: ls) (.int x :: st) σ := e_iload0 k116_18 rfl
theorem k116_20 : cod 116 20 = some (.iload_n 3, 1, 0, 0, 0, 0) := rfl
theorem e116_20 (a0 a1 a2 : Option Value) (x : Int32) (ls : mL) (st : List Value) (σ : mS) : ev 116 20 (a0 :: a1 :: a2 :: some (.int x) :: ls) st σ = ev 116 21 (a0 :: a1 :: a2 :: some (.int x) :: ls) (.int x :: st) σ := e_iload1 k116_20 rfl
theorem k116_21 : cod 116 21 = some (.iload 4, 2, 0, 0, 0, 0) := rfl
theorem e116_21 (a0 a1 a2 a3 : Option Value) (x : Int32) (ls : mL) (st : List Value) (σ : mS) : ev 116 21 (a0 :: a1 :: a2 :: a3 :: some (.int x) :: ls) st σ = ev 116 23 (a0 :: a1 :: a2 :: a3 :: some (.int x) :: ls) (.int x :: st) σ := e_iload0 k116_21 rfl
theorem k116_23 : cod 116 23 = some (.invokevirtual 118, 3, 73, 3, 0, 6) := rfl
theorem e116_23 (t : Nat) (x0 : Int32) (x1 : Int32) (x2 : Int32) (ls : mL) (st : List Value) (σ : mS) (hm : mCat st ≤ 8) : ev 116 23 ls (.int x2 :: .int x1 :: .int x0 :: .ref t :: st) σ = isC (σ.1 t) 6 ((evM 73 [.ref t, .int x0, .int x1, .int x2] σ).bind fun z => ev 116 26 ls (z.1.toList ++ st) z.2) := e_callVK k116_23 (by decide) rfl ⟨hm, Nat.le_of_ble_eq_true rfl⟩
theorem k116_26 : cod 116 26 = some (.istore 6, 2, 0, 0, 0, 0) := rfl
theorem e116_26i (a0 a1 a2 a3 a4 : Option Value) (y : Int32) (o : Option Value) (x : Int32) (ls : mL) (st : List Value) (σ : mS) : ev 116 26 (a0 :: a1 :: a2 :: a3 :: a4 :: some (.int y) :: o :: ls) (.int x :: st) σ = ev 116 28 (a0 :: a1 :: a2 :: a3 :: a4 :: some (.int y) :: some (.int x) :: ls) st σ := e_istore0 k116_26 (Nat.le_add_left 7 ls.length)
theorem e116_26n (a0 a1 a2 a3 a4 : Option Value) (o : Option Value) (x : Int32) (ls : mL) (st : List Value) (σ : mS) : ev 116 26 (a0 :: a1 :: a2 :: a3 :: a4 :: none :: o :: ls) (.int x :: st) σ = ev 116 28 (a0 :: a1 :: a2 :: a3 :: a4 :: none :: some (.int x) :: ls) st σ := e_istore0 k116_26 (Nat.le_add_left 7 ls.length)
theorem e116_26r (a0 a1 a2 a3 a4 : Option Value) (y : Nat) (o : Option Value) (x : Int32) (ls : mL) (st : List Value) (σ : mS) : ev 116 26 (a0 :: a1 :: a2 :: a3 :: a4 :: some (.ref y) :: o :: ls) (.int x :: st) σ = ev 116 28 (a0 :: a1 :: a2 :: a3 :: a4 :: some (.ref y) :: some (.int x) :: ls) st σ := e_istore0 k116_26 (Nat.le_add_left 7 ls.length)
theorem k116_28 : cod 116 28 = some (.aload_n 0, 1, 0, 0, 0, 0) := rfl
theorem e116_28 (x : Nat) (ls : mL) (st : List Value) (σ : mS) : ev 116 28 (some (.ref x) :: ls) st σ = ev 116 29 (some (.ref x) :: ls) (.ref x :: st) σ := e_aload1 k116_28 rfl
theorem k116_29 : cod 116 29 = some (.getfield 36, 3, 7, 4, 0, 3) := rfl
theorem e116_29 (t : Nat) (ls : mL) (st : List Value) (σ : mS) : ev 116 29 ls (.ref t :: st) σ = gfK (σ.1 t) 7 4 (fun v => ev 116 32 ls (v :: st) σ) := e_getf k116_29
theorem k116_32 : cod 116 32 = some (.iload_n 1, 1, 0, 0, 0, 0) := rfl
theorem e116_32 (a0 : Option Value) (x : Int32) (ls : mL) (st : List Value) (σ : mS) : ev 116 32 (a0 :: some (.int x) :: ls) st σ = ev 116 33 (a0 :: some (.int x) :: ls) (.int x :: st) σ := e_iload1 k116_32 rfl
theorem k116_33 : cod 116 33 = some (.iload_n 3, 1, 0, 0, 0, 0) := rfl
theorem e116_33 (a0 a1 a2 : Option Value) (x : Int32) (ls : mL) (st : List Value) (σ : mS) : ev 116 33 (a0 :: a1 :: a2 :: some (.int x) :: ls) st σ = ev 116 34 (a0 :: a1 :: a2 :: some (.int x) :: ls) (.int x :: st) σ := e_iload1 k116_33 rfl
theorem k116_34 : cod 116 34 = some (.invokevirtual 301, 3, 9, 2, 0, 0) := rfl
theorem e116_34 (t : Nat) (x0 : Int32) (x1 : Int32) (ls : mL) (st : List Value) (σ : mS) (hm : mCat st ≤ 8) : ev 116 34 ls (.int x1 :: .int x0 :: .ref t :: st) σ = isC (σ.1 t) 0 ((evM 9 [.ref t, .int x0, .int x1] σ).bind fun z => ev 116 37 ls (z.1.toList ++ st) z.2) := e_callVK k116_34 (by decide) rfl ⟨hm, Nat.le_of_ble_eq_true rfl⟩
theorem k116_37 : cod 116 37 = some (.istore 7, 2, 0, 0, 0, 0) := rfl
theorem e116_37i (a0 a1 a2 a3 a4 a5 : Option Value) (y : Int32) (o : Option Value) (x : Int32) (ls : mL) (st : List Value) (σ : mS) : ev 116 37 (a0 :: a1 :: a2 :: a3 :: a4 :: a5 :: some (.int y) :: o :: ls) (.int x :: st) σ = ev 116 39 (a0 :: a1 :: a2 :: a3 :: a4 :: a5 :: some (.int y) :: some (.int x) :: ls) st σ := e_istore0 k116_37 (Nat.le_add_left 8 ls.length)
theorem e116_37n (a0 a1 a2 a3 a4 a5 : Option Value) (o : Option Value) (x : Int32) (ls : mL) (st : List Value) (σ : mS) : ev 116 37 (a0 :: a1 :: a2 :: a3 :: a4 :: a5 :: none :: o :: ls) (.int x :: st) σ = ev 116 39 (a0 :: a1 :: a2 :: a3 :: a4 :: a5 :: none :: some (.int x) :: ls) st σ := e_istore0 k116_37 (Nat.le_add_left 8 ls.length)
theorem e116_37r (a0 a1 a2 a3 a4 a5 : Option Value) (y : Nat) (o : Option Value) (x : Int32) (ls : mL) (st : List Value) (σ : mS) : ev 116 37 (a0 :: a1 :: a2 :: a3 :: a4 :: a5 :: some (.ref y) :: o :: ls) (.int x :: st) σ = ev 116 39 (a0 :: a1 :: a2 :: a3 :: a4 :: a5 :: some (.ref y) :: some (.int x) :: ls) st σ := e_istore0 k116_37 (Nat.le_add_left 8 ls.length)
theorem k116_39 : cod 116 39 = some (.aload_n 0, 1, 0, 0, 0, 0) := rfl
theorem e116_39 (x : Nat) (ls : mL) (st : List Value) (σ : mS) : ev 116 39 (some (.ref x) :: ls) st σ = ev 116 40 (some (.ref x) :: ls) (.ref x :: st) σ := e_aload1 k116_39 rfl
theorem k116_40 : cod 116 40 = some (.iload_n 3, 1, 0, 0, 0, 0) := rfl
theorem e116_40 (a0 a1 a2 : Option Value) (x : Int32) (ls : mL) (st : List Value) (σ : mS) : ev 116 40 (a0 :: a1 :: a2 :: some (.int x) :: ls) st σ = ev 116 41 (a0 :: a1 :: a2 :: some (.int x) :: ls) (.int x :: st) σ := e_iload1 k116_40 rfl
theorem k116_41 : cod 116 41 = some (.invokevirtual 307, 3, 115, 1, 0, 7) := rfl
theorem e116_41 (t : Nat) (x0 : Int32) (ls : mL) (st : List Value) (σ : mS) (hm : mCat st ≤ 8) : ev 116 41 ls (.int x0 :: .ref t :: st) σ = isC (σ.1 t) 7 ((evM 115 [.ref t, .int x0] σ).bind fun z => ev 116 44 ls (z.1.toList ++ st) z.2) := e_callVK k116_41 (by decide) rfl ⟨hm, Nat.le_of_ble_eq_true rfl⟩
theorem k116_44 : cod 116 44 = some (.istore 8, 2, 0, 0, 0, 0) := rfl
theorem e116_44i (a0 a1 a2 a3 a4 a5 a6 : Option Value) (y : Int32) (o : Option Value) (x : Int32) (ls : mL) (st : List Value) (σ : mS) : ev 116 44 (a0 :: a1 :: a2 :: a3 :: a4 :: a5 :: a6 :: some (.int y) :: o :: ls) (.int x :: st) σ = ev 116 46 (a0 :: a1 :: a2 :: a3 :: a4 :: a5 :: a6 :: some (.int y) :: some (.int x) :: ls) st σ := e_istore0 k116_44 (Nat.le_add_left 9 ls.length)
theorem e116_44n (a0 a1 a2 a3 a4 a5 a6 : Option Value) (o : Option Value) (x : Int32) (ls : mL) (st : List Value) (σ : mS) : ev 116 44 (a0 :: a1 :: a2 :: a3 :: a4 :: a5 :: a6 :: none :: o :: ls) (.int x :: st) σ = ev 116 46 (a0 :: a1 :: a2 :: a3 :: a4 :: a5 :: a6 :: none :: some (.int x) :: ls) st σ := e_istore0 k116_44 (Nat.le_add_left 9 ls.length)
theorem e116_44r (a0 a1 a2 a3 a4 a5 a6 : Option Value) (y : Nat) (o : Option Value) (x : Int32) (ls : mL) (st : List Value) (σ : mS) : ev 116 44 (a0 :: a1 :: a2 :: a3 :: a4 :: a5 :: a6 :: some (.ref y) :: o :: ls) (.int x :: st) σ = ev 116 46 (a0 :: a1 :: a2 :: a3 :: a4 :: a5 :: a6 :: some (.ref y) :: some (.int x) :: ls) st σ := e_istore0 k116_44 (Nat.le_add_left 9 ls.length)
theorem k116_46 : cod 116 46 = some (.aload_n 0, 1, 0, 0, 0, 0) := rfl
theorem e116_46 (x : Nat) (ls : mL) (st : List Value) (σ : mS) : ev 116 46 (some (.ref x) :: ls) st σ = ev 116 47 (some (.ref x) :: ls) (.ref x :: st) σ := e_aload1 k116_46 rfl
theorem k116_47 : cod 116 47 = some (.getfield 36, 3, 7, 4, 0, 3) := rfl
theorem e116_47 (t : Nat) (ls : mL) (st : List Value) (σ : mS) : ev 116 47 ls (.ref t :: st) σ = gfK (σ.1 t) 7 4 (fun v => ev 116 50 ls (v :: st) σ) := e_getf k116_47
theorem k116_50 : cod 116 50 = some (.iload_n 1, 1, 0, 0, 0, 0) := rfl
theorem e116_50 (a0 : Option Value) (x : Int32) (ls : mL) (st : List Value) (σ : mS) : ev 116 50 (a0 :: some (.int x) :: ls) st σ = ev 116 51 (a0 :: some (.int x) :: ls) (.int x :: st) σ := e_iload1 k116_50 rfl
theorem k116_51 : cod 116 51 = some (.iload 7, 2, 0, 0, 0, 0) := rfl
theorem e116_51 (a0 a1 a2 a3 a4 a5 a6 : Option Value) (x : Int32) (ls : mL) (st : List Value) (σ : mS) : ev 116 51 (a0 :: a1 :: a2 :: a3 :: a4 :: a5 :: a6 :: some (.int x) :: ls) st σ = ev 116 53 (a0 :: a1 :: a2 :: a3 :: a4 :: a5 :: a6 :: some (.int x) :: ls) (.int x :: st) σ := e_iload0 k116_51 rfl
theorem k116_53 : cod 116 53 = some (.iload 8, 2, 0, 0, 0, 0) := rfl
theorem e116_53 (a0 a1 a2 a3 a4 a5 a6 a7 : Option Value) (x : Int32) (ls : mL) (st : List Value) (σ : mS) : ev 116 53 (a0 :: a1 :: a2 :: a3 :: a4 :: a5 :: a6 :: a7 :: some (.int x) :: ls) st σ = ev 116 55 (a0 :: a1 :: a2 :: a3 :: a4 :: a5 :: a6 :: a7 :: some (.int x) :: ls) (.int x :: st) σ := e_iload0 k116_53 rfl
theorem k116_55 : cod 116 55 = some (.invokevirtual 317, 3, 11, 3, 0, 0) := rfl
theorem e116_55 (t : Nat) (x0 : Int32) (x1 : Int32) (x2 : Int32) (ls : mL) (st : List Value) (σ : mS) (hm : mCat st ≤ 8) : ev 116 55 ls (.int x2 :: .int x1 :: .int x0 :: .ref t :: st) σ = isC (σ.1 t) 0 ((evM 11 [.ref t, .int x0, .int x1, .int x2] σ).bind fun z => ev 116 58 ls (z.1.toList ++ st) z.2) := e_callVK k116_55 (by decide) rfl ⟨hm, Nat.le_of_ble_eq_true rfl⟩
theorem k116_58 : cod 116 58 = some (.istore 9, 2, 0, 0, 0, 0) := rfl
theorem e116_58i (a0 a1 a2 a3 a4 a5 a6 a7 : Option Value) (y : Int32) (o : Option Value) (x : Int32) (ls : mL) (st : List Value) (σ : mS) : ev 116 58 (a0 :: a1 :: a2 :: a3 :: a4 :: a5 :: a6 :: a7 :: some (.int y) :: o :: ls) (.int x :: st) σ = ev 116 60 (a0 :: a1 :: a2 :: a3 :: a4 :: a5 :: a6 :: a7 :: some (.int y) :: some (.int x) :: ls) st σ := e_istore0 k116_58 (Nat.le_add_left 10 ls.length)
theorem e116_58n (a0 a1 a2 a3 a4 a5 a6 a7 : Option Value) (o : Option Value) (x : Int32) (ls : mL) (st : List Value) (σ : mS) : ev 116 58 (a0 :: a1 :: a2 :: a3 :: a4 :: a5 :: a6 :: a7 :: none :: o :: ls) (.int x :: st) σ = ev 116 60 (a0 :: a1 :: a2 :: a3 :: a4 :: a5 :: a6 :: a7 :: none :: some (.int x) :: ls) st σ := e_istore0 k116_58 (Nat.le_add_left 10 ls.length)
theorem e116_58r (a0 a1 a2 a3 a4 a5 a6 a7 : Option Value) (y : Nat) (o : Option Value) (x : Int32) (ls : mL) (st : List Value) (σ : mS) : ev 116 58 (a0 :: a1 :: a2 :: a3 :: a4 :: a5 :: a6 :: a7 :: some (.ref y) :: o :: ls) (.int x :: st) σ = ev 116 60 (a0 :: a1 :: a2 :: a3 :: a4 :: a5 :: a6 :: a7 :: some (.ref y) :: some (.int x) :: ls) st σ := e_istore0 k116_58 (Nat.le_add_left 10 ls.length)
theorem k116_60 : cod 116 60 = some (.aload_n 0, 1, 0, 0, 0, 0) := rfl
theorem e116_60 (x : Nat) (ls : mL) (st : List Value) (σ : mS) : ev 116 60 (some (.ref x) :: ls) st σ = ev 116 61 (some (.ref x) :: ls) (.ref x :: st) σ := e_aload1 k116_60 rfl
theorem k116_61 : cod 116 61 = some (.getfield 36, 3, 7, 4, 0, 3) := rfl
theorem e116_61 (t : Nat) (ls : mL) (st : List Value) (σ : mS) : ev 116 61 ls (.ref t :: st) σ = gfK (σ.1 t) 7 4 (fun v => ev 116 64 ls (v :: st) σ) := e_getf k116_61
theorem k116_64 : cod 116 64 = some (.getfield 213, 3, 0, 3, 1, 3) := rfl
theorem e116_64 (t : Nat) (ls : mL) (st : List Value) (σ : mS) : ev 116 64 ls (.ref t :: st) σ = gfK (σ.1 t) 0 3 (fun v => ev 116 67 ls (v :: st) σ) := e_getf k116_64
theorem k116_67 : cod 116 67 = some (.iload 9, 2, 0, 0, 0, 0) := rfl
theorem e116_67 (a0 a1 a2 a3 a4 a5 a6 a7 a8 : Option Value) (x : Int32) (ls : mL) (st : List Value) (σ : mS) : ev 116 67 (a0 :: a1 :: a2 :: a3 :: a4 :: a5 :: a6 :: a7 :: a8 :: some (.int x) :: ls) st σ = ev 116 69 (a0 :: a1 :: a2 :: a3 :: a4 :: a5 :: a6 :: a7 :: a8 :: some (.int x) :: ls) (.int x :: st) σ := e_iload0 k116_67 rfl
theorem k116_69 : cod 116 69 = some (.iconst 2, 1, 0, 0, 0, 0) := rfl
theorem e116_69 (ls : mL) (st : List Value) (σ : mS) : ev 116 69 ls st σ = ev 116 70 ls (.int 2 :: st) σ := e_iconst 2 k116_69 (by decide)
theorem k116_70 : cod 116 70 = some (.iload_n 2, 1, 0, 0, 0, 0) := rfl
theorem e116_70 (a0 a1 : Option Value) (x : Int32) (ls : mL) (st : List Value) (σ : mS) : ev 116 70 (a0 :: a1 :: some (.int x) :: ls) st σ = ev 116 71 (a0 :: a1 :: some (.int x) :: ls) (.int x :: st) σ := e_iload1 k116_70 rfl
theorem k116_71 : cod 116 71 = some (.invokevirtual 163, 3, 35, 3, 0, 3) := rfl
theorem e116_71 (t : Nat) (x0 : Int32) (x1 : Int32) (x2 : Int32) (ls : mL) (st : List Value) (σ : mS) (hm : mCat st ≤ 8) : ev 116 71 ls (.int x2 :: .int x1 :: .int x0 :: .ref t :: st) σ = isC (σ.1 t) 3 ((evM 35 [.ref t, .int x0, .int x1, .int x2] σ).bind fun z => ev 116 74 ls (z.1.toList ++ st) z.2) := e_callVK k116_71 (by decide) rfl ⟨hm, Nat.le_of_ble_eq_true rfl⟩
theorem k116_74 : cod 116 74 = some (.aload_n 0, 1, 0, 0, 0, 0) := rfl
theorem e116_74 (x : Nat) (ls : mL) (st : List Value) (σ : mS) : ev 116 74 (some (.ref x) :: ls) st σ = ev 116 75 (some (.ref x) :: ls) (.ref x :: st) σ := e_aload1 k116_74 rfl
theorem k116_75 : cod 116 75 = some (.getfield 36, 3, 7, 4, 0, 3) := rfl
theorem e116_75 (t : Nat) (ls : mL) (st : List Value) (σ : mS) : ev 116 75 ls (.ref t :: st) σ = gfK (σ.1 t) 7 4 (fun v => ev 116 78 ls (v :: st) σ) := e_getf k116_75
theorem k116_78 : cod 116 78 = some (.getfield 213, 3, 0, 3, 1, 3) := rfl
theorem e116_78 (t : Nat) (ls : mL) (st : List Value) (σ : mS) : ev 116 78 ls (.ref t :: st) σ = gfK (σ.1 t) 0 3 (fun v => ev 116 81 ls (v :: st) σ) := e_getf k116_78
theorem k116_81 : cod 116 81 = some (.iload 9, 2, 0, 0, 0, 0) := rfl
theorem e116_81 (a0 a1 a2 a3 a4 a5 a6 a7 a8 : Option Value) (x : Int32) (ls : mL) (st : List Value) (σ : mS) : ev 116 81 (a0 :: a1 :: a2 :: a3 :: a4 :: a5 :: a6 :: a7 :: a8 :: some (.int x) :: ls) st σ = ev 116 83 (a0 :: a1 :: a2 :: a3 :: a4 :: a5 :: a6 :: a7 :: a8 :: some (.int x) :: ls) (.int x :: st) σ := e_iload0 k116_81 rfl
theorem k116_83 : cod 116 83 = some (.iconst 3, 1, 0, 0, 0, 0) := rfl
theorem e116_83 (ls : mL) (st : List Value) (σ : mS) : ev 116 83 ls st σ = ev 116 84 ls (.int 3 :: st) σ := e_iconst 3 k116_83 (by decide)
theorem k116_84 : cod 116 84 = some (.iload_n 3, 1, 0, 0, 0, 0) := rfl
theorem e116_84 (a0 a1 a2 : Option Value) (x : Int32) (ls : mL) (st : List Value) (σ : mS) : ev 116 84 (a0 :: a1 :: a2 :: some (.int x) :: ls) st σ = ev 116 85 (a0 :: a1 :: a2 :: some (.int x) :: ls) (.int x :: st) σ := e_iload1 k116_84 rfl
theorem k116_85 : cod 116 85 = some (.invokevirtual 163, 3, 35, 3, 0, 3) := rfl
theorem e116_85 (t : Nat) (x0 : Int32) (x1 : Int32) (x2 : Int32) (ls : mL) (st : List Value) (σ : mS) (hm : mCat st ≤ 8) : ev 116 85 ls (.int x2 :: .int x1 :: .int x0 :: .ref t :: st) σ = isC (σ.1 t) 3 ((evM 35 [.ref t, .int x0, .int x1, .int x2] σ).bind fun z => ev 116 88 ls (z.1.toList ++ st) z.2) := e_callVK k116_85 (by decide) rfl ⟨hm, Nat.le_of_ble_eq_true rfl⟩
theorem k116_88 : cod 116 88 = some (.aload_n 0, 1, 0, 0, 0, 0) := rfl
theorem e116_88 (x : Nat) (ls : mL) (st : List Value) (σ : mS) : ev 116 88 (some (.ref x) :: ls) st σ = ev 116 89 (some (.ref x) :: ls) (.ref x :: st) σ := e_aload1 k116_88 rfl
theorem k116_89 : cod 116 89 = some (.getfield 36, 3, 7, 4, 0, 3) := rfl
theorem e116_89 (t : Nat) (ls : mL) (st : List Value) (σ : mS) : ev 116 89 ls (.ref t :: st) σ = gfK (σ.1 t) 7 4 (fun v => ev 116 92 ls (v :: st) σ) := e_getf k116_89
theorem k116_92 : cod 116 92 = some (.getfield 213, 3, 0, 3, 1, 3) := rfl
theorem e116_92 (t : Nat) (ls : mL) (st : List Value) (σ : mS) : ev 116 92 ls (.ref t :: st) σ = gfK (σ.1 t) 0 3 (fun v => ev 116 95 ls (v :: st) σ) := e_getf k116_92
theorem k116_95 : cod 116 95 = some (.iload 9, 2, 0, 0, 0, 0) := rfl
theorem e116_95 (a0 a1 a2 a3 a4 a5 a6 a7 a8 : Option Value) (x : Int32) (ls : mL) (st : List Value) (σ : mS) : ev 116 95 (a0 :: a1 :: a2 :: a3 :: a4 :: a5 :: a6 :: a7 :: a8 :: some (.int x) :: ls) st σ = ev 116 97 (a0 :: a1 :: a2 :: a3 :: a4 :: a5 :: a6 :: a7 :: a8 :: some (.int x) :: ls) (.int x :: st) σ := e_iload0 k116_95 rfl
theorem k116_97 : cod 116 97 = some (.iconst 4, 1, 0, 0, 0, 0) := rfl
theorem e116_97 (ls : mL) (st : List Value) (σ : mS) : ev 116 97 ls st σ = ev 116 98 ls (.int 4 :: st) σ := e_iconst 4 k116_97 (by decide)
theorem k116_98 : cod 116 98 = some (.iload 5, 2, 0, 0, 0, 0) := rfl
theorem e116_98 (a0 a1 a2 a3 a4 : Option Value) (x : Int32) (ls : mL) (st : List Value) (σ : mS) : ev 116 98 (a0 :: a1 :: a2 :: a3 :: a4 :: some (.int x) :: ls) st σ = ev 116 100 (a0 :: a1 :: a2 :: a3 :: a4 :: some (.int x) :: ls) (.int x :: st) σ := e_iload0 k116_98 rfl
theorem k116_100 : cod 116 100 = some (.invokevirtual 163, 3, 35, 3, 0, 3) := rfl
theorem e116_100 (t : Nat) (x0 : Int32) (x1 : Int32) (x2 : Int32) (ls : mL) (st : List Value) (σ : mS) (hm : mCat st ≤ 8) : ev 116 100 ls (.int x2 :: .int x1 :: .int x0 :: .ref t :: st) σ = isC (σ.1 t) 3 ((evM 35 [.ref t, .int x0, .int x1, .int x2] σ).bind fun z => ev 116 103 ls (z.1.toList ++ st) z.2) := e_callVK k116_100 (by decide) rfl ⟨hm, Nat.le_of_ble_eq_true rfl⟩
theorem k116_103 : cod 116 103 = some (.aload_n 0, 1, 0, 0, 0, 0) := rfl
theorem e116_103 (x : Nat) (ls : mL) (st : List Value) (σ : mS) : ev 116 103 (some (.ref x) :: ls) st σ = ev 116 104 (some (.ref x) :: ls) (.ref x :: st) σ := e_aload1 k116_103 rfl
theorem k116_104 : cod 116 104 = some (.getfield 36, 3, 7, 4, 0, 3) := rfl
theorem e116_104 (t : Nat) (ls : mL) (st : List Value) (σ : mS) : ev 116 104 ls (.ref t :: st) σ = gfK (σ.1 t) 7 4 (fun v => ev 116 107 ls (v :: st) σ) := e_getf k116_104
theorem k116_107 : cod 116 107 = some (.getfield 213, 3, 0, 3, 1, 3) := rfl
theorem e116_107 (t : Nat) (ls : mL) (st : List Value) (σ : mS) : ev 116 107 ls (.ref t :: st) σ = gfK (σ.1 t) 0 3 (fun v => ev 116 110 ls (v :: st) σ) := e_getf k116_107
theorem k116_110 : cod 116 110 = some (.iload 9, 2, 0, 0, 0, 0) := rfl
theorem e116_110 (a0 a1 a2 a3 a4 a5 a6 a7 a8 : Option Value) (x : Int32) (ls : mL) (st : List Value) (σ : mS) : ev 116 110 (a0 :: a1 :: a2 :: a3 :: a4 :: a5 :: a6 :: a7 :: a8 :: some (.int x) :: ls) st σ = ev 116 112 (a0 :: a1 :: a2 :: a3 :: a4 :: a5 :: a6 :: a7 :: a8 :: some (.int x) :: ls) (.int x :: st) σ := e_iload0 k116_110 rfl
theorem k116_112 : cod 116 112 = some (.iconst 5, 1, 0, 0, 0, 0) := rfl
theorem e116_112 (ls : mL) (st : List Value) (σ : mS) : ev 116 112 ls st σ = ev 116 113 ls (.int 5 :: st) σ := e_iconst 5 k116_112 (by decide)
theorem k116_113 : cod 116 113 = some (.iload 6, 2, 0, 0, 0, 0) := rfl
theorem e116_113 (a0 a1 a2 a3 a4 a5 : Option Value) (x : Int32) (ls : mL) (st : List Value) (σ : mS) : ev 116 113 (a0 :: a1 :: a2 :: a3 :: a4 :: a5 :: some (.int x) :: ls) st σ = ev 116 115 (a0 :: a1 :: a2 :: a3 :: a4 :: a5 :: some (.int x) :: ls) (.int x :: st) σ := e_iload0 k116_113 rfl
theorem k116_115 : cod 116 115 = some (.invokevirtual 163, 3, 35, 3, 0, 3) := rfl
theorem e116_115 (t : Nat) (x0 : Int32) (x1 : Int32) (x2 : Int32) (ls : mL) (st : List Value) (σ : mS) (hm : mCat st ≤ 8) : ev 116 115 ls (.int x2 :: .int x1 :: .int x0 :: .ref t :: st) σ = isC (σ.1 t) 3 ((evM 35 [.ref t, .int x0, .int x1, .int x2] σ).bind fun z => ev 116 118 ls (z.1.toList ++ st) z.2) := e_callVK k116_115 (by decide) rfl ⟨hm, Nat.le_of_ble_eq_true rfl⟩
theorem k116_118 : cod 116 118 = some (.aload_n 0, 1, 0, 0, 0, 0) := rfl
theorem e116_118 (x : Nat) (ls : mL) (st : List Value) (σ : mS) : ev 116 118 (some (.ref x) :: ls) st σ = ev 116 119 (some (.ref x) :: ls) (.ref x :: st) σ := e_aload1 k116_118 rfl
theorem k116_119 : cod 116 119 = some (.getfield 36, 3, 7, 4, 0, 3) := rfl
theorem e116_119 (t : Nat) (ls : mL) (st : List Value) (σ : mS) : ev 116 119 ls (.ref t :: st) σ = gfK (σ.1 t) 7 4 (fun v => ev 116 122 ls (v :: st) σ) := e_getf k116_119
theorem k116_122 : cod 116 122 = some (.getfield 213, 3, 0, 3, 1, 3) := rfl
theorem e116_122 (t : Nat) (ls : mL) (st : List Value) (σ : mS) : ev 116 122 ls (.ref t :: st) σ = gfK (σ.1 t) 0 3 (fun v => ev 116 125 ls (v :: st) σ) := e_getf k116_122
theorem k116_125 : cod 116 125 = some (.iload 9, 2, 0, 0, 0, 0) := rfl
theorem e116_125 (a0 a1 a2 a3 a4 a5 a6 a7 a8 : Option Value) (x : Int32) (ls : mL) (st : List Value) (σ : mS) : ev 116 125 (a0 :: a1 :: a2 :: a3 :: a4 :: a5 :: a6 :: a7 :: a8 :: some (.int x) :: ls) st σ = ev 116 127 (a0 :: a1 :: a2 :: a3 :: a4 :: a5 :: a6 :: a7 :: a8 :: some (.int x) :: ls) (.int x :: st) σ := e_iload0 k116_125 rfl
theorem k116_127 : cod 116 127 = some (.bipush (9), 2, 0, 0, 0, 0) := rfl
theorem e116_127 (ls : mL) (st : List Value) (σ : mS) : ev 116 127 ls st σ = ev 116 129 ls (.int 9 :: st) σ := e_bipush 9 k116_127 (by decide)
theorem k116_129 : cod 116 129 = some (.iload 4, 2, 0, 0, 0, 0) := rfl
theorem e116_129 (a0 a1 a2 a3 : Option Value) (x : Int32) (ls : mL) (st : List Value) (σ : mS) : ev 116 129 (a0 :: a1 :: a2 :: a3 :: some (.int x) :: ls) st σ = ev 116 131 (a0 :: a1 :: a2 :: a3 :: some (.int x) :: ls) (.int x :: st) σ := e_iload0 k116_129 rfl
theorem k116_131 : cod 116 131 = some (.invokevirtual 163, 3, 35, 3, 0, 3) := rfl
theorem e116_131 (t : Nat) (x0 : Int32) (x1 : Int32) (x2 : Int32) (ls : mL) (st : List Value) (σ : mS) (hm : mCat st ≤ 8) : ev 116 131 ls (.int x2 :: .int x1 :: .int x0 :: .ref t :: st) σ = isC (σ.1 t) 3 ((evM 35 [.ref t, .int x0, .int x1, .int x2] σ).bind fun z => ev 116 134 ls (z.1.toList ++ st) z.2) := e_callVK k116_131 (by decide) rfl ⟨hm, Nat.le_of_ble_eq_true rfl⟩
theorem k116_134 : cod 116 134 = some (.aload_n 0, 1, 0, 0, 0, 0) := rfl
theorem e116_134 (x : Nat) (ls : mL) (st : List Value) (σ : mS) : ev 116 134 (some (.ref x) :: ls) st σ = ev 116 135 (some (.ref x) :: ls) (.ref x :: st) σ := e_aload1 k116_134 rfl
theorem k116_135 : cod 116 135 = some (.getfield 36, 3, 7, 4, 0, 3) := rfl
theorem e116_135 (t : Nat) (ls : mL) (st : List Value) (σ : mS) : ev 116 135 ls (.ref t :: st) σ = gfK (σ.1 t) 7 4 (fun v => ev 116 138 ls (v :: st) σ) := e_getf k116_135
theorem k116_138 : cod 116 138 = some (.iload 7, 2, 0, 0, 0, 0) := rfl
theorem e116_138 (a0 a1 a2 a3 a4 a5 a6 : Option Value) (x : Int32) (ls : mL) (st : List Value) (σ : mS) : ev 116 138 (a0 :: a1 :: a2 :: a3 :: a4 :: a5 :: a6 :: some (.int x) :: ls) st σ = ev 116 140 (a0 :: a1 :: a2 :: a3 :: a4 :: a5 :: a6 :: some (.int x) :: ls) (.int x :: st) σ := e_iload0 k116_138 rfl
theorem k116_140 : cod 116 140 = some (.invokevirtual 320, 3, 12, 1, 0, 0) := rfl
theorem e116_140 (t : Nat) (x0 : Int32) (ls : mL) (st : List Value) (σ : mS) (hm : mCat st ≤ 8) : ev 116 140 ls (.int x0 :: .ref t :: st) σ = isC (σ.1 t) 0 ((evM 12 [.ref t, .int x0] σ).bind fun z => ev 116 143 ls (z.1.toList ++ st) z.2) := e_callVK k116_140 (by decide) rfl ⟨hm, Nat.le_of_ble_eq_true rfl⟩
theorem k116_143 : cod 116 143 = some (.aload_n 0, 1, 0, 0, 0, 0) := rfl
theorem e116_143 (x : Nat) (ls : mL) (st : List Value) (σ : mS) : ev 116 143 (some (.ref x) :: ls) st σ = ev 116 144 (some (.ref x) :: ls) (.ref x :: st) σ := e_aload1 k116_143 rfl
theorem k116_144 : cod 116 144 = some (.getfield 36, 3, 7, 4, 0, 3) := rfl
theorem e116_144 (t : Nat) (ls : mL) (st : List Value) (σ : mS) : ev 116 144 ls (.ref t :: st) σ = gfK (σ.1 t) 7 4 (fun v => ev 116 147 ls (v :: st) σ) := e_getf k116_144
theorem k116_147 : cod 116 147 = some (.aload_n 0, 1, 0, 0, 0, 0) := rfl
theorem e116_147 (x : Nat) (ls : mL) (st : List Value) (σ : mS) : ev 116 147 (some (.ref x) :: ls) st σ = ev 116 148 (some (.ref x) :: ls) (.ref x :: st) σ := e_aload1 k116_147 rfl
theorem k116_148 : cod 116 148 = some (.getfield 36, 3, 7, 4, 0, 3) := rfl
theorem e116_148 (t : Nat) (ls : mL) (st : List Value) (σ : mS) : ev 116 148 ls (.ref t :: st) σ = gfK (σ.1 t) 7 4 (fun v => ev 116 151 ls (v :: st) σ) := e_getf k116_148
theorem k116_151 : cod 116 151 = some (.getfield 174, 3, 0, 1, 1, 3) := rfl
theorem e116_151 (t : Nat) (ls : mL) (st : List Value) (σ : mS) : ev 116 151 ls (.ref t :: st) σ = gfK (σ.1 t) 0 1 (fun v => ev 116 154 ls (v :: st) σ) := e_getf k116_151
theorem k116_154 : cod 116 154 = some (.iload_n 1, 1, 0, 0, 0, 0) := rfl
theorem e116_154 (a0 : Option Value) (x : Int32) (ls : mL) (st : List Value) (σ : mS) : ev 116 154 (a0 :: some (.int x) :: ls) st σ = ev 116 155 (a0 :: some (.int x) :: ls) (.int x :: st) σ := e_iload1 k116_154 rfl
theorem k116_155 : cod 116 155 = some (.iconst 1, 1, 0, 0, 0, 0) := rfl
theorem e116_155 (ls : mL) (st : List Value) (σ : mS) : ev 116 155 ls st σ = ev 116 156 ls (.int 1 :: st) σ := e_iconst 1 k116_155 (by decide)
theorem k116_156 : cod 116 156 = some (.invokevirtual 160, 3, 38, 2, 0, 3) := rfl
theorem e116_156 (t : Nat) (x0 : Int32) (x1 : Int32) (ls : mL) (st : List Value) (σ : mS) (hm : mCat st ≤ 8) : ev 116 156 ls (.int x1 :: .int x0 :: .ref t :: st) σ = isC (σ.1 t) 3 ((evM 38 [.ref t, .int x0, .int x1] σ).bind fun z => ev 116 159 ls (z.1.toList ++ st) z.2) := e_callVK k116_156 (by decide) rfl ⟨hm, Nat.le_of_ble_eq_true rfl⟩
theorem k116_159 : cod 116 159 = some (.iload 8, 2, 0, 0, 0, 0) := rfl
theorem e116_159 (a0 a1 a2 a3 a4 a5 a6 a7 : Option Value) (x : Int32) (ls : mL) (st : List Value) (σ : mS) : ev 116 159 (a0 :: a1 :: a2 :: a3 :: a4 :: a5 :: a6 :: a7 :: some (.int x) :: ls) st σ = ev 116 161 (a0 :: a1 :: a2 :: a3 :: a4 :: a5 :: a6 :: a7 :: some (.int x) :: ls) (.int x :: st) σ := e_iload0 k116_159 rfl
theorem k116_161 : cod 116 161 = some (.invokevirtual 323, 3, 13, 2, 0, 0) := rfl
theorem e116_161 (t : Nat) (x0 : Int32) (x1 : Int32) (ls : mL) (st : List Value) (σ : mS) (hm : mCat st ≤ 8) : ev 116 161 ls (.int x1 :: .int x0 :: .ref t :: st) σ = isC (σ.1 t) 0 ((evM 13 [.ref t, .int x0, .int x1] σ).bind fun z => ev 116 164 ls (z.1.toList ++ st) z.2) := e_callVK k116_161 (by decide) rfl ⟨hm, Nat.le_of_ble_eq_true rfl⟩
theorem k116_164 : cod 116 164 = some (.aload_n 0, 1, 0, 0, 0, 0) := rfl
theorem e116_164 (x : Nat) (ls : mL) (st : List Value) (σ : mS) : ev 116 164 (some (.ref x) :: ls) st σ = ev 116 165 (some (.ref x) :: ls) (.ref x :: st) σ := e_aload1 k116_164 rfl
theorem k116_165 : cod 116 165 = some (.iload_n 3, 1, 0, 0, 0, 0) := rfl
theorem e116_165 (a0 a1 a2 : Option Value) (x : Int32) (ls : mL) (st : List Value) (σ : mS) : ev 116 165 (a0 :: a1 :: a2 :: some (.int x) :: ls) st σ = ev 116 166 (a0 :: a1 :: a2 :: some (.int x) :: ls) (.int x :: st) σ := e_iload1 k116_165 rfl
theorem k116_166 : cod 116 166 = some (.invokevirtual 304, 3, 113, 1, 0, 7) := rfl
theorem e116_166 (t : Nat) (x0 : Int32) (ls : mL) (st : List Value) (σ : mS) (hm : mCat st ≤ 8) : ev 116 166 ls (.int x0 :: .ref t :: st) σ = isC (σ.1 t) 7 ((evM 113 [.ref t, .int x0] σ).bind fun z => ev 116 169 ls (z.1.toList ++ st) z.2) := e_callVK k116_166 (by decide) rfl ⟨hm, Nat.le_of_ble_eq_true rfl⟩
theorem k116_169 : cod 116 169 = some (.ifCond .eq (16), 3, 185, 0, 0, 0) := rfl
theorem e116_169 (x : Int32) (ls : mL) (st : List Value) (σ : mS) : ev 116 169 ls (.int x :: st) σ = if x = 0 then ev 116 185 ls st σ else ev 116 172 ls st σ := e_if_eq k116_169
theorem k116_172 : cod 116 172 = some (.aload_n 0, 1, 0, 0, 0, 0) := rfl
theorem e116_172 (x : Nat) (ls : mL) (st : List Value) (σ : mS) : ev 116 172 (some (.ref x) :: ls) st σ = ev 116 173 (some (.ref x) :: ls) (.ref x :: st) σ := e_aload1 k116_172 rfl
theorem k116_173 : cod 116 173 = some (.getfield 36, 3, 7, 4, 0, 3) := rfl
theorem e116_173 (t : Nat) (ls : mL) (st : List Value) (σ : mS) : ev 116 173 ls (.ref t :: st) σ = gfK (σ.1 t) 7 4 (fun v => ev 116 176 ls (v :: st) σ) := e_getf k116_173
theorem k116_176 : cod 116 176 = some (.getfield 174, 3, 0, 1, 1, 3) := rfl
theorem e116_176 (t : Nat) (ls : mL) (st : List Value) (σ : mS) : ev 116 176 ls (.ref t :: st) σ = gfK (σ.1 t) 0 1 (fun v => ev 116 179 ls (v :: st) σ) := e_getf k116_176
theorem k116_179 : cod 116 179 = some (.iload_n 1, 1, 0, 0, 0, 0) := rfl
theorem e116_179 (a0 : Option Value) (x : Int32) (ls : mL) (st : List Value) (σ : mS) : ev 116 179 (a0 :: some (.int x) :: ls) st σ = ev 116 180 (a0 :: some (.int x) :: ls) (.int x :: st) σ := e_iload1 k116_179 rfl
theorem k116_180 : cod 116 180 = some (.iconst 2, 1, 0, 0, 0, 0) := rfl
theorem e116_180 (ls : mL) (st : List Value) (σ : mS) : ev 116 180 ls st σ = ev 116 181 ls (.int 2 :: st) σ := e_iconst 2 k116_180 (by decide)
theorem k116_181 : cod 116 181 = some (.iconst (-1), 1, 0, 0, 0, 0) := rfl
theorem e116_181 (ls : mL) (st : List Value) (σ : mS) : ev 116 181 ls st σ = ev 116 182 ls (.int (-1) :: st) σ := e_iconst (-1) k116_181 (by decide)
theorem k116_182 : cod 116 182 = some (.invokevirtual 200, 3, 39, 3, 0, 3) := rfl
theorem e116_182 (t : Nat) (x0 : Int32) (x1 : Int32) (x2 : Int32) (ls : mL) (st : List Value) (σ : mS) (hm : mCat st ≤ 8) : ev 116 182 ls (.int x2 :: .int x1 :: .int x0 :: .ref t :: st) σ = isC (σ.1 t) 3 ((evM 39 [.ref t, .int x0, .int x1, .int x2] σ).bind fun z => ev 116 185 ls (z.1.toList ++ st) z.2) := e_callVK k116_182 (by decide) rfl ⟨hm, Nat.le_of_ble_eq_true rfl⟩
theorem k116_185 : cod 116 185 = some (.aload_n 0, 1, 0, 0, 0, 0) := rfl
theorem e116_185 (x : Nat) (ls : mL) (st : List Value) (σ : mS) : ev 116 185 (some (.ref x) :: ls) st σ = ev 116 186 (some (.ref x) :: ls) (.ref x :: st) σ := e_aload1 k116_185 rfl
theorem k116_186 : cod 116 186 = some (.getfield 36, 3, 7, 4, 0, 3) := rfl
theorem e116_186 (t : Nat) (ls : mL) (st : List Value) (σ : mS) : ev 116 186 ls (.ref t :: st) σ = gfK (σ.1 t) 7 4 (fun v => ev 116 189 ls (v :: st) σ) := e_getf k116_186
theorem k116_189 : cod 116 189 = some (.getfield 174, 3, 0, 1, 1, 3) := rfl
theorem e116_189 (t : Nat) (ls : mL) (st : List Value) (σ : mS) : ev 116 189 ls (.ref t :: st) σ = gfK (σ.1 t) 0 1 (fun v => ev 116 192 ls (v :: st) σ) := e_getf k116_189
theorem k116_192 : cod 116 192 = some (.iload_n 1, 1, 0, 0, 0, 0) := rfl
theorem e116_192 (a0 : Option Value) (x : Int32) (ls : mL) (st : List Value) (σ : mS) : ev 116 192 (a0 :: some (.int x) :: ls) st σ = ev 116 193 (a0 :: some (.int x) :: ls) (.int x :: st) σ := e_iload1 k116_192 rfl
theorem k116_193 : cod 116 193 = some (.iconst 0, 1, 0, 0, 0, 0) := rfl
theorem e116_193 (ls : mL) (st : List Value) (σ : mS) : ev 116 193 ls st σ = ev 116 194 ls (.int 0 :: st) σ := e_iconst 0 k116_193 (by decide)
theorem k116_194 : cod 116 194 = some (.iload 6, 2, 0, 0, 0, 0) := rfl
theorem e116_194 (a0 a1 a2 a3 a4 a5 : Option Value) (x : Int32) (ls : mL) (st : List Value) (σ : mS) : ev 116 194 (a0 :: a1 :: a2 :: a3 :: a4 :: a5 :: some (.int x) :: ls) st σ = ev 116 196 (a0 :: a1 :: a2 :: a3 :: a4 :: a5 :: some (.int x) :: ls) (.int x :: st) σ := e_iload0 k116_194 rfl
theorem k116_196 : cod 116 196 = some (.invokevirtual 163, 3, 35, 3, 0, 3) := rfl
theorem e116_196 (t : Nat) (x0 : Int32) (x1 : Int32) (x2 : Int32) (ls : mL) (st : List Value) (σ : mS) (hm : mCat st ≤ 8) : ev 116 196 ls (.int x2 :: .int x1 :: .int x0 :: .ref t :: st) σ = isC (σ.1 t) 3 ((evM 35 [.ref t, .int x0, .int x1, .int x2] σ).bind fun z => ev 116 199 ls (z.1.toList ++ st) z.2) := e_callVK k116_196 (by decide) rfl ⟨hm, Nat.le_of_ble_eq_true rfl⟩
theorem k116_199 : cod 116 199 = some (.aload_n 0, 1, 0, 0, 0, 0) := rfl
theorem e116_199 (x : Nat) (ls : mL) (st : List Value) (σ : mS) : ev 116 199 (some (.ref x) :: ls) st σ = ev 116 200 (some (.ref x) :: ls) (.ref x :: st) σ := e_aload1 k116_199 rfl
theorem k116_200 : cod 116 200 = some (.getfield 36, 3, 7, 4, 0, 3) := rfl
theorem e116_200 (t : Nat) (ls : mL) (st : List Value) (σ : mS) : ev 116 200 ls (.ref t :: st) σ = gfK (σ.1 t) 7 4 (fun v => ev 116 203 ls (v :: st) σ) := e_getf k116_200
set_option maxRecDepth 100000 in
theorem k116_203 : cod 116 203 = some (.dup, 1, 0, 0, 0, 0) := rfl
theorem e116_203i (x : Int32) (ls : mL) (st : List Value) (σ : mS) : ev 116 203 ls (.int x :: st) σ = ev 116 204 ls (.int x :: .int x :: st) σ := e_dupI k116_203
theorem e116_203r (x : Nat) (ls : mL) (st : List Value) (σ : mS) : ev 116 203 ls (.ref x :: st) σ = ev 116 204 ls (.ref x :: .ref x :: st) σ := e_dupR k116_203
set_option maxRecDepth 100000 in
theorem k116_204 : cod 116 204 = some (.getfield 222, 3, 0, 4, 1, 0) := rfl
theorem e116_204 (t : Nat) (ls : mL) (st : List Value) (σ : mS) : ev 116 204 ls (.ref t :: st) σ = gfK (σ.1 t) 0 4 (fun v => ev 116 207 ls (v :: st) σ) := e_getf k116_204
set_option maxRecDepth 100000 in
theorem k116_207 : cod 116 207 = some (.iconst 1, 1, 0, 0, 0, 0) := rfl
theorem e116_207 (ls : mL) (st : List Value) (σ : mS) : ev 116 207 ls st σ = ev 116 208 ls (.int 1 :: st) σ := e_iconst 1 k116_207 (by decide)
set_option maxRecDepth 100000 in
theorem k116_208 : cod 116 208 = some (.iadd, 1, 0, 0, 0, 0) := rfl
theorem e116_208 (x y : Int32) (ls : mL) (st : List Value) (σ : mS) : ev 116 208 ls (.int y :: .int x :: st) σ = ev 116 209 ls (.int (x + y) :: st) σ := e_iadd k116_208
set_option maxRecDepth 100000 in
theorem k116_209 : cod 116 209 = some (.putfield 222, 3, 0, 4, 1, 0) := rfl
theorem e116_209 (x : Int32) (t : Nat) (ls : mL) (st : List Value) (σ : mS) : ev 116 209 ls (.int x :: .ref t :: st) σ = pfK (σ.1 t) 0 4 (.int x) (fun e => ev 116 212 ls st (mset σ t e)) := e_putI k116_209
set_option maxRecDepth 100000 in
theorem k116_212 : cod 116 212 = some (.return_, 1, 0, 0, 0, 0) := rfl
theorem e116_212 (ls : mL) (σ : mS) : ev 116 212 ls [] σ = some (none, σ) := e_vret k116_212 rfl
theorem m116 (t : Nat) (x0 : Int32) (x1 : Int32) (x2 : Int32) (x3 : Int32) (σ : mS) : evM 116 [.ref t, .int x0, .int x1, .int x2, .int x3] σ = ev 116 0 [some (.ref t), some (.int x0), some (.int x1), some (.int x2), some (.int x3), none, none, none, none, none] [] σ := rfl
theorem k117_0 : cod 117 0 = some (.aload_n 0, 1, 0, 0, 0, 0) := rfl
theorem e117_0 (x : Nat) (ls : mL) (st : List Value) (σ : mS) : ev 117 0 (some (.ref x) :: ls) st σ = ev 117 1 (some (.ref x) :: ls) (.ref x :: st) σ := e_aload1 k117_0 rfl
theorem k117_1 : cod 117 1 = some (.getfield 36, 3, 7, 4, 0, 3) := rfl
theorem e117_1 (t : Nat) (ls : mL) (st : List Value) (σ : mS) : ev 117 1 ls (.ref t :: st) σ = gfK (σ.1 t) 7 4 (fun v => ev 117 4 ls (v :: st) σ) := e_getf k117_1
theorem k117_4 : cod 117 4 = some (.getfield 174, 3, 0, 1, 1, 3) := rfl
theorem e117_4 (t : Nat) (ls : mL) (st : List Value) (σ : mS) : ev 117 4 ls (.ref t :: st) σ = gfK (σ.1 t) 0 1 (fun v => ev 117 7 ls (v :: st) σ) := e_getf k117_4
theorem k117_7 : cod 117 7 = some (.iload_n 1, 1, 0, 0, 0, 0) := rfl
theorem e117_7 (a0 : Option Value) (x : Int32) (ls : mL) (st : List Value) (σ : mS) : ev 117 7 (a0 :: some (.int x) :: ls) st σ = ev 117 8 (a0 :: some (.int x) :: ls) (.int x :: st) σ := e_iload1 k117_7 rfl
theorem k117_8 : cod 117 8 = some (.invokevirtual 155, 3, 37, 1, 0, 3) := rfl
theorem e117_8 (t : Nat) (x0 : Int32) (ls : mL) (st : List Value) (σ : mS) (hm : mCat st ≤ 8) : ev 117 8 ls (.int x0 :: .ref t :: st) σ = isC (σ.1 t) 3 ((evM 37 [.ref t, .int x0] σ).bind fun z => ev 117 11 ls (z.1.toList ++ st) z.2) := e_callVK k117_8 (by decide) rfl ⟨hm, Nat.le_of_ble_eq_true rfl⟩
theorem k117_11 : cod 117 11 = some (.ifCond .ne (5), 3, 16, 0, 0, 0) := rfl
theorem e117_11 (x : Int32) (ls : mL) (st : List Value) (σ : mS) : ev 117 11 ls (.int x :: st) σ = if x = 0 then ev 117 14 ls st σ else ev 117 16 ls st σ := e_if_ne k117_11
theorem k117_14 : cod 117 14 = some (.iconst (-1), 1, 0, 0, 0, 0) := rfl
theorem e117_14 (ls : mL) (st : List Value) (σ : mS) : ev 117 14 ls st σ = ev 117 15 ls (.int (-1) :: st) σ := e_iconst (-1) k117_14 (by decide)
theorem k117_15 : cod 117 15 = some (.ireturn, 1, 0, 0, 0, 0) := rfl
theorem e117_15 (x : Int32) (ls : mL) (σ : mS) : ev 117 15 ls [.int x] σ = some (some (.int x), σ) := e_iret k117_15 rfl
theorem k117_16 : cod 117 16 = some (.aload_n 0, 1, 0, 0, 0, 0) := rfl
theorem e117_16 (x : Nat) (ls : mL) (st : List Value) (σ : mS) : ev 117 16 (some (.ref x) :: ls) st σ = ev 117 17 (some (.ref x) :: ls) (.ref x :: st) σ := e_aload1 k117_16 rfl
theorem k117_17 : cod 117 17 = some (.getfield 36, 3, 7, 4, 0, 3) := rfl
theorem e117_17 (t : Nat) (ls : mL) (st : List Value) (σ : mS) : ev 117 17 ls (.ref t :: st) σ = gfK (σ.1 t) 7 4 (fun v => ev 117 20 ls (v :: st) σ) := e_getf k117_17
theorem k117_20 : cod 117 20 = some (.iload_n 1, 1, 0, 0, 0, 0) := rfl
theorem e117_20 (a0 : Option Value) (x : Int32) (ls : mL) (st : List Value) (σ : mS) : ev 117 20 (a0 :: some (.int x) :: ls) st σ = ev 117 21 (a0 :: some (.int x) :: ls) (.int x :: st) σ := e_iload1 k117_20 rfl
theorem k117_21 : cod 117 21 = some (.invokevirtual 210, 3, 14, 1, 0, 0) := rfl
theorem e117_21 (t : Nat) (x0 : Int32) (ls : mL) (st : List Value) (σ : mS) (hm : mCat st ≤ 8) : ev 117 21 ls (.int x0 :: .ref t :: st) σ = isC (σ.1 t) 0 ((evM 14 [.ref t, .int x0] σ).bind fun z => ev 117 24 ls (z.1.toList ++ st) z.2) := e_callVK k117_21 (by decide) rfl ⟨hm, Nat.le_of_ble_eq_true rfl⟩
theorem k117_24 : cod 117 24 = some (.istore_n 2, 1, 0, 0, 0, 0) := rfl
theorem e117_24i (a0 : Option Value) (y : Int32) (o : Option Value) (x : Int32) (ls : mL) (st : List Value) (σ : mS) : ev 117 24 (a0 :: some (.int y) :: o :: ls) (.int x :: st) σ = ev 117 25 (a0 :: some (.int y) :: some (.int x) :: ls) st σ := e_istore1 k117_24 (Nat.le_add_left 3 ls.length)
theorem e117_24n (a0 : Option Value) (o : Option Value) (x : Int32) (ls : mL) (st : List Value) (σ : mS) : ev 117 24 (a0 :: none :: o :: ls) (.int x :: st) σ = ev 117 25 (a0 :: none :: some (.int x) :: ls) st σ := e_istore1 k117_24 (Nat.le_add_left 3 ls.length)
theorem e117_24r (a0 : Option Value) (y : Nat) (o : Option Value) (x : Int32) (ls : mL) (st : List Value) (σ : mS) : ev 117 24 (a0 :: some (.ref y) :: o :: ls) (.int x :: st) σ = ev 117 25 (a0 :: some (.ref y) :: some (.int x) :: ls) st σ := e_istore1 k117_24 (Nat.le_add_left 3 ls.length)
theorem k117_25 : cod 117 25 = some (.iload_n 2, 1, 0, 0, 0, 0) := rfl
theorem e117_25 (a0 a1 : Option Value) (x : Int32) (ls : mL) (st : List Value) (σ : mS) : ev 117 25 (a0 :: a1 :: some (.int x) :: ls) st σ = ev 117 26 (a0 :: a1 :: some (.int x) :: ls) (.int x :: st) σ := e_iload1 k117_25 rfl
theorem k117_26 : cod 117 26 = some (.ifCond .lt (39), 3, 65, 0, 0, 0) := rfl
theorem e117_26 (x : Int32) (ls : mL) (st : List Value) (σ : mS) : ev 117 26 ls (.int x :: st) σ = if x < 0 then ev 117 65 ls st σ else ev 117 29 ls st σ := e_if_lt k117_26
theorem k117_29 : cod 117 29 = some (.aload_n 0, 1, 0, 0, 0, 0) := rfl
theorem e117_29 (x : Nat) (ls : mL) (st : List Value) (σ : mS) : ev 117 29 (some (.ref x) :: ls) st σ = ev 117 30 (some (.ref x) :: ls) (.ref x :: st) σ := e_aload1 k117_29 rfl
theorem k117_30 : cod 117 30 = some (.getfield 36, 3, 7, 4, 0, 3) := rfl
theorem e117_30 (t : Nat) (ls : mL) (st : List Value) (σ : mS) : ev 117 30 ls (.ref t :: st) σ = gfK (σ.1 t) 7 4 (fun v => ev 117 33 ls (v :: st) σ) := e_getf k117_30
theorem k117_33 : cod 117 33 = some (.getfield 213, 3, 0, 3, 1, 3) := rfl
theorem e117_33 (t : Nat) (ls : mL) (st : List Value) (σ : mS) : ev 117 33 ls (.ref t :: st) σ = gfK (σ.1 t) 0 3 (fun v => ev 117 36 ls (v :: st) σ) := e_getf k117_33
theorem k117_36 : cod 117 36 = some (.iload_n 2, 1, 0, 0, 0, 0) := rfl
theorem e117_36 (a0 a1 : Option Value) (x : Int32) (ls : mL) (st : List Value) (σ : mS) : ev 117 36 (a0 :: a1 :: some (.int x) :: ls) st σ = ev 117 37 (a0 :: a1 :: some (.int x) :: ls) (.int x :: st) σ := e_iload1 k117_36 rfl
theorem k117_37 : cod 117 37 = some (.bipush (8), 2, 0, 0, 0, 0) := rfl
theorem e117_37 (ls : mL) (st : List Value) (σ : mS) : ev 117 37 ls st σ = ev 117 39 ls (.int 8 :: st) σ := e_bipush 8 k117_37 (by decide)
theorem k117_39 : cod 117 39 = some (.invokevirtual 160, 3, 38, 2, 0, 3) := rfl
theorem e117_39 (t : Nat) (x0 : Int32) (x1 : Int32) (ls : mL) (st : List Value) (σ : mS) (hm : mCat st ≤ 8) : ev 117 39 ls (.int x1 :: .int x0 :: .ref t :: st) σ = isC (σ.1 t) 3 ((evM 38 [.ref t, .int x0, .int x1] σ).bind fun z => ev 117 42 ls (z.1.toList ++ st) z.2) := e_callVK k117_39 (by decide) rfl ⟨hm, Nat.le_of_ble_eq_true rfl⟩
theorem k117_42 : cod 117 42 = some (.ifCond .ne (23), 3, 65, 0, 0, 0) := rfl
theorem e117_42 (x : Int32) (ls : mL) (st : List Value) (σ : mS) : ev 117 42 ls (.int x :: st) σ = if x = 0 then ev 117 45 ls st σ else ev 117 65 ls st σ := e_if_ne k117_42
theorem k117_45 : cod 117 45 = some (.aload_n 0, 1, 0, 0, 0, 0) := rfl
theorem e117_45 (x : Nat) (ls : mL) (st : List Value) (σ : mS) : ev 117 45 (some (.ref x) :: ls) st σ = ev 117 46 (some (.ref x) :: ls) (.ref x :: st) σ := e_aload1 k117_45 rfl
theorem k117_46 : cod 117 46 = some (.aload_n 0, 1, 0, 0, 0, 0) := rfl
theorem e117_46 (x : Nat) (ls : mL) (st : List Value) (σ : mS) : ev 117 46 (some (.ref x) :: ls) st σ = ev 117 47 (some (.ref x) :: ls) (.ref x :: st) σ := e_aload1 k117_46 rfl
theorem k117_47 : cod 117 47 = some (.getfield 36, 3, 7, 4, 0, 3) := rfl
theorem e117_47 (t : Nat) (ls : mL) (st : List Value) (σ : mS) : ev 117 47 ls (.ref t :: st) σ = gfK (σ.1 t) 7 4 (fun v => ev 117 50 ls (v :: st) σ) := e_getf k117_47
theorem k117_50 : cod 117 50 = some (.getfield 213, 3, 0, 3, 1, 3) := rfl
theorem e117_50 (t : Nat) (ls : mL) (st : List Value) (σ : mS) : ev 117 50 ls (.ref t :: st) σ = gfK (σ.1 t) 0 3 (fun v => ev 117 53 ls (v :: st) σ) := e_getf k117_50
theorem k117_53 : cod 117 53 = some (.iload_n 2, 1, 0, 0, 0, 0) := rfl
theorem e117_53 (a0 a1 : Option Value) (x : Int32) (ls : mL) (st : List Value) (σ : mS) : ev 117 53 (a0 :: a1 :: some (.int x) :: ls) st σ = ev 117 54 (a0 :: a1 :: some (.int x) :: ls) (.int x :: st) σ := e_iload1 k117_53 rfl
theorem k117_54 : cod 117 54 = some (.iconst 3, 1, 0, 0, 0, 0) := rfl
theorem e117_54 (ls : mL) (st : List Value) (σ : mS) : ev 117 54 ls st σ = ev 117 55 ls (.int 3 :: st) σ := e_iconst 3 k117_54 (by decide)
theorem k117_55 : cod 117 55 = some (.invokevirtual 160, 3, 38, 2, 0, 3) := rfl
theorem e117_55 (t : Nat) (x0 : Int32) (x1 : Int32) (ls : mL) (st : List Value) (σ : mS) (hm : mCat st ≤ 8) : ev 117 55 ls (.int x1 :: .int x0 :: .ref t :: st) σ = isC (σ.1 t) 3 ((evM 38 [.ref t, .int x0, .int x1] σ).bind fun z => ev 117 58 ls (z.1.toList ++ st) z.2) := e_callVK k117_55 (by decide) rfl ⟨hm, Nat.le_of_ble_eq_true rfl⟩
theorem k117_58 : cod 117 58 = some (.invokevirtual 216, 3, 114, 1, 0, 7) := rfl
theorem e117_58 (t : Nat) (x0 : Int32) (ls : mL) (st : List Value) (σ : mS) (hm : mCat st ≤ 8) : ev 117 58 ls (.int x0 :: .ref t :: st) σ = isC (σ.1 t) 7 ((evM 114 [.ref t, .int x0] σ).bind fun z => ev 117 61 ls (z.1.toList ++ st) z.2) := e_callVK k117_58 (by decide) rfl ⟨hm, Nat.le_of_ble_eq_true rfl⟩
theorem k117_61 : cod 117 61 = some (.iconst 4, 1, 0, 0, 0, 0) := rfl
theorem e117_61 (ls : mL) (st : List Value) (σ : mS) : ev 117 61 ls st σ = ev 117 62 ls (.int 4 :: st) σ := e_iconst 4 k117_61 (by decide)
theorem k117_62 : cod 117 62 = some (.if_icmp .eq (6), 3, 68, 0, 0, 0) := rfl
theorem e117_62 (x y : Int32) (ls : mL) (st : List Value) (σ : mS) : ev 117 62 ls (.int y :: .int x :: st) σ = if x = y then ev 117 68 ls st σ else ev 117 65 ls st σ := e_ic_eq k117_62
theorem k117_65 : cod 117 65 = some (.bipush (-2), 2, 0, 0, 0, 0) := rfl
theorem e117_65 (ls : mL) (st : List Value) (σ : mS) : ev 117 65 ls st σ = ev 117 67 ls (.int (-2) :: st) σ := e_bipush (-2) k117_65 (by decide)
theorem k117_67 : cod 117 67 = some (.ireturn, 1, 0, 0, 0, 0) := rfl
theorem e117_67 (x : Int32) (ls : mL) (σ : mS) : ev 117 67 ls [.int x] σ = some (some (.int x), σ) := e_iret k117_67 rfl
theorem k117_68 : cod 117 68 = some (.aload_n 0, 1, 0, 0, 0, 0) := rfl
theorem e117_68 (x : Nat) (ls : mL) (st : List Value) (σ : mS) : ev 117 68 (some (.ref x) :: ls) st σ = ev 117 69 (some (.ref x) :: ls) (.ref x :: st) σ := e_aload1 k117_68 rfl
theorem k117_69 : cod 117 69 = some (.getfield 36, 3, 7, 4, 0, 3) := rfl
theorem e117_69 (t : Nat) (ls : mL) (st : List Value) (σ : mS) : ev 117 69 ls (.ref t :: st) σ = gfK (σ.1 t) 7 4 (fun v => ev 117 72 ls (v :: st) σ) := e_getf k117_69
theorem k117_72 : cod 117 72 = some (.iload_n 2, 1, 0, 0, 0, 0) := rfl
theorem e117_72 (a0 a1 : Option Value) (x : Int32) (ls : mL) (st : List Value) (σ : mS) : ev 117 72 (a0 :: a1 :: some (.int x) :: ls) st σ = ev 117 73 (a0 :: a1 :: some (.int x) :: ls) (.int x :: st) σ := e_iload1 k117_72 rfl
theorem k117_73 : cod 117 73 = some (.invokevirtual 219, 3, 15, 1, 0, 0) := rfl
theorem e117_73 (t : Nat) (x0 : Int32) (ls : mL) (st : List Value) (σ : mS) (hm : mCat st ≤ 8) : ev 117 73 ls (.int x0 :: .ref t :: st) σ = isC (σ.1 t) 0 ((evM 15 [.ref t, .int x0] σ).bind fun z => ev 117 76 ls (z.1.toList ++ st) z.2) := e_callVK k117_73 (by decide) rfl ⟨hm, Nat.le_of_ble_eq_true rfl⟩
theorem k117_76 : cod 117 76 = some (.iload_n 2, 1, 0, 0, 0, 0) := rfl
theorem e117_76 (a0 a1 : Option Value) (x : Int32) (ls : mL) (st : List Value) (σ : mS) : ev 117 76 (a0 :: a1 :: some (.int x) :: ls) st σ = ev 117 77 (a0 :: a1 :: some (.int x) :: ls) (.int x :: st) σ := e_iload1 k117_76 rfl
theorem k117_77 : cod 117 77 = some (.ireturn, 1, 0, 0, 0, 0) := rfl
theorem e117_77 (x : Int32) (ls : mL) (σ : mS) : ev 117 77 ls [.int x] σ = some (some (.int x), σ) := e_iret k117_77 rfl
theorem m117 (t : Nat) (x0 : Int32) (σ : mS) : evM 117 [.ref t, .int x0] σ = ev 117 0 [some (.ref t), some (.int x0), none] [] σ := rfl
theorem k118_0 : cod 118 0 = some (.iload_n 1, 1, 0, 0, 0, 0) := rfl
theorem e118_0 (a0 : Option Value) (x : Int32) (ls : mL) (st : List Value) (σ : mS) : ev 118 0 (a0 :: some (.int x) :: ls) st σ = ev 118 1 (a0 :: some (.int x) :: ls) (.int x :: st) σ := e_iload1 k118_0 rfl
theorem k118_1 : cod 118 1 = some (.iconst 1, 1, 0, 0, 0, 0) := rfl
theorem e118_1 (ls : mL) (st : List Value) (σ : mS) : ev 118 1 ls st σ = ev 118 2 ls (.int 1 :: st) σ := e_iconst 1 k118_1 (by decide)
theorem k118_2 : cod 118 2 = some (.bipush (50), 2, 0, 0, 0, 0) := rfl
theorem e118_2 (ls : mL) (st : List Value) (σ : mS) : ev 118 2 ls st σ = ev 118 4 ls (.int 50 :: st) σ := e_bipush 50 k118_2 (by decide)
theorem k118_4 : cod 118 4 = some (.invokestatic 78, 3, 87, 3, 0, 0) := rfl
theorem e118_4 (x0 : Int32) (x1 : Int32) (x2 : Int32) (ls : mL) (st : List Value) (σ : mS) (hm : mCat st ≤ 8) : ev 118 4 ls (.int x2 :: .int x1 :: .int x0 :: st) σ = (evM 87 [.int x0, .int x1, .int x2] σ).bind fun z => ev 118 7 ls (z.1.toList ++ st) z.2 := e_callS k118_4 (by decide) rfl ⟨hm, Nat.le_of_ble_eq_true rfl⟩
theorem k118_7 : cod 118 7 = some (.ifCond .ne (5), 3, 12, 0, 0, 0) := rfl
theorem e118_7 (x : Int32) (ls : mL) (st : List Value) (σ : mS) : ev 118 7 ls (.int x :: st) σ = if x = 0 then ev 118 10 ls st σ else ev 118 12 ls st σ := e_if_ne k118_7
theorem k118_10 : cod 118 10 = some (.iconst (-1), 1, 0, 0, 0, 0) := rfl
theorem e118_10 (ls : mL) (st : List Value) (σ : mS) : ev 118 10 ls st σ = ev 118 11 ls (.int (-1) :: st) σ := e_iconst (-1) k118_10 (by decide)
theorem k118_11 : cod 118 11 = some (.ireturn, 1, 0, 0, 0, 0) := rfl
theorem e118_11 (x : Int32) (ls : mL) (σ : mS) : ev 118 11 ls [.int x] σ = some (some (.int x), σ) := e_iret k118_11 rfl
theorem k118_12 : cod 118 12 = some (.aload_n 0, 1, 0, 0, 0, 0) := rfl
theorem e118_12 (x : Nat) (ls : mL) (st : List Value) (σ : mS) : ev 118 12 (some (.ref x) :: ls) st σ = ev 118 13 (some (.ref x) :: ls) (.ref x :: st) σ := e_aload1 k118_12 rfl
theorem k118_13 : cod 118 13 = some (.getfield 36, 3, 7, 4, 0, 3) := rfl
theorem e118_13 (t : Nat) (ls : mL) (st : List Value) (σ : mS) : ev 118 13 ls (.ref t :: st) σ = gfK (σ.1 t) 7 4 (fun v => ev 118 16 ls (v :: st) σ) := e_getf k118_13
theorem k118_16 : cod 118 16 = some (.getfield 222, 3, 0, 4, 1, 0) := rfl
theorem e118_16 (t : Nat) (ls : mL) (st : List Value) (σ : mS) : ev 118 16 ls (.ref t :: st) σ = gfK (σ.1 t) 0 4 (fun v => ev 118 19 ls (v :: st) σ) := e_getf k118_16
theorem k118_19 : cod 118 19 = some (.iload_n 1, 1, 0, 0, 0, 0) := rfl
theorem e118_19 (a0 : Option Value) (x : Int32) (ls : mL) (st : List Value) (σ : mS) : ev 118 19 (a0 :: some (.int x) :: ls) st σ = ev 118 20 (a0 :: some (.int x) :: ls) (.int x :: st) σ := e_iload1 k118_19 rfl
theorem k118_20 : cod 118 20 = some (.iadd, 1, 0, 0, 0, 0) := rfl
theorem e118_20 (x y : Int32) (ls : mL) (st : List Value) (σ : mS) : ev 118 20 ls (.int y :: .int x :: st) σ = ev 118 21 ls (.int (x + y) :: st) σ := e_iadd k118_20
theorem k118_21 : cod 118 21 = some (.bipush (100), 2, 0, 0, 0, 0) := rfl
theorem e118_21 (ls : mL) (st : List Value) (σ : mS) : ev 118 21 ls st σ = ev 118 23 ls (.int 100 :: st) σ := e_bipush 100 k118_21 (by decide)
theorem k118_23 : cod 118 23 = some (.if_icmp .le (6), 3, 29, 0, 0, 0) := rfl
theorem e118_23 (x y : Int32) (ls : mL) (st : List Value) (σ : mS) : ev 118 23 ls (.int y :: .int x :: st) σ = if x ≤ y then ev 118 29 ls st σ else ev 118 26 ls st σ := e_ic_le k118_23
theorem k118_26 : cod 118 26 = some (.bipush (-2), 2, 0, 0, 0, 0) := rfl
theorem e118_26 (ls : mL) (st : List Value) (σ : mS) : ev 118 26 ls st σ = ev 118 28 ls (.int (-2) :: st) σ := e_bipush (-2) k118_26 (by decide)
theorem k118_28 : cod 118 28 = some (.ireturn, 1, 0, 0, 0, 0) := rfl
theorem e118_28 (x : Int32) (ls : mL) (σ : mS) : ev 118 28 ls [.int x] σ = some (some (.int x), σ) := e_iret k118_28 rfl
theorem k118_29 : cod 118 29 = some (.aload_n 0, 1, 0, 0, 0, 0) := rfl
theorem e118_29 (x : Nat) (ls : mL) (st : List Value) (σ : mS) : ev 118 29 (some (.ref x) :: ls) st σ = ev 118 30 (some (.ref x) :: ls) (.ref x :: st) σ := e_aload1 k118_29 rfl
theorem k118_30 : cod 118 30 = some (.getfield 36, 3, 7, 4, 0, 3) := rfl
theorem e118_30 (t : Nat) (ls : mL) (st : List Value) (σ : mS) : ev 118 30 ls (.ref t :: st) σ = gfK (σ.1 t) 7 4 (fun v => ev 118 33 ls (v :: st) σ) := e_getf k118_30
theorem k118_33 : cod 118 33 = some (.dup, 1, 0, 0, 0, 0) := rfl
theorem e118_33i (x : Int32) (ls : mL) (st : List Value) (σ : mS) : ev 118 33 ls (.int x :: st) σ = ev 118 34 ls (.int x :: .int x :: st) σ := e_dupI k118_33
theorem e118_33r (x : Nat) (ls : mL) (st : List Value) (σ : mS) : ev 118 33 ls (.ref x :: st) σ = ev 118 34 ls (.ref x :: .ref x :: st) σ := e_dupR k118_33
theorem k118_34 : cod 118 34 = some (.getfield 222, 3, 0, 4, 1, 0) := rfl
theorem e118_34 (t : Nat) (ls : mL) (st : List Value) (σ : mS) : ev 118 34 ls (.ref t :: st) σ = gfK (σ.1 t) 0 4 (fun v => ev 118 37 ls (v :: st) σ) := e_getf k118_34
theorem k118_37 : cod 118 37 = some (.iload_n 1, 1, 0, 0, 0, 0) := rfl
theorem e118_37 (a0 : Option Value) (x : Int32) (ls : mL) (st : List Value) (σ : mS) : ev 118 37 (a0 :: some (.int x) :: ls) st σ = ev 118 38 (a0 :: some (.int x) :: ls) (.int x :: st) σ := e_iload1 k118_37 rfl
theorem k118_38 : cod 118 38 = some (.iadd, 1, 0, 0, 0, 0) := rfl
theorem e118_38 (x y : Int32) (ls : mL) (st : List Value) (σ : mS) : ev 118 38 ls (.int y :: .int x :: st) σ = ev 118 39 ls (.int (x + y) :: st) σ := e_iadd k118_38
theorem k118_39 : cod 118 39 = some (.putfield 222, 3, 0, 4, 1, 0) := rfl
theorem e118_39 (x : Int32) (t : Nat) (ls : mL) (st : List Value) (σ : mS) : ev 118 39 ls (.int x :: .ref t :: st) σ = pfK (σ.1 t) 0 4 (.int x) (fun e => ev 118 42 ls st (mset σ t e)) := e_putI k118_39
theorem k118_42 : cod 118 42 = some (.aload_n 0, 1, 0, 0, 0, 0) := rfl
theorem e118_42 (x : Nat) (ls : mL) (st : List Value) (σ : mS) : ev 118 42 (some (.ref x) :: ls) st σ = ev 118 43 (some (.ref x) :: ls) (.ref x :: st) σ := e_aload1 k118_42 rfl
theorem k118_43 : cod 118 43 = some (.getfield 36, 3, 7, 4, 0, 3) := rfl
theorem e118_43 (t : Nat) (ls : mL) (st : List Value) (σ : mS) : ev 118 43 ls (.ref t :: st) σ = gfK (σ.1 t) 7 4 (fun v => ev 118 46 ls (v :: st) σ) := e_getf k118_43
theorem k118_46 : cod 118 46 = some (.getfield 222, 3, 0, 4, 1, 0) := rfl
theorem e118_46 (t : Nat) (ls : mL) (st : List Value) (σ : mS) : ev 118 46 ls (.ref t :: st) σ = gfK (σ.1 t) 0 4 (fun v => ev 118 49 ls (v :: st) σ) := e_getf k118_46
theorem k118_49 : cod 118 49 = some (.ireturn, 1, 0, 0, 0, 0) := rfl
theorem e118_49 (x : Int32) (ls : mL) (σ : mS) : ev 118 49 ls [.int x] σ = some (some (.int x), σ) := e_iret k118_49 rfl
theorem m118 (t : Nat) (x0 : Int32) (σ : mS) : evM 118 [.ref t, .int x0] σ = ev 118 0 [some (.ref t), some (.int x0)] [] σ := rfl
theorem k119_0 : cod 119 0 = some (.aload_n 0, 1, 0, 0, 0, 0) := rfl
theorem e119_0 (x : Nat) (ls : mL) (st : List Value) (σ : mS) : ev 119 0 (some (.ref x) :: ls) st σ = ev 119 1 (some (.ref x) :: ls) (.ref x :: st) σ := e_aload1 k119_0 rfl
theorem k119_1 : cod 119 1 = some (.getfield 36, 3, 7, 4, 0, 3) := rfl
theorem e119_1 (t : Nat) (ls : mL) (st : List Value) (σ : mS) : ev 119 1 ls (.ref t :: st) σ = gfK (σ.1 t) 7 4 (fun v => ev 119 4 ls (v :: st) σ) := e_getf k119_1
theorem k119_4 : cod 119 4 = some (.getfield 213, 3, 0, 3, 1, 3) := rfl
theorem e119_4 (t : Nat) (ls : mL) (st : List Value) (σ : mS) : ev 119 4 ls (.ref t :: st) σ = gfK (σ.1 t) 0 3 (fun v => ev 119 7 ls (v :: st) σ) := e_getf k119_4
theorem k119_7 : cod 119 7 = some (.iload_n 1, 1, 0, 0, 0, 0) := rfl
theorem e119_7 (a0 : Option Value) (x : Int32) (ls : mL) (st : List Value) (σ : mS) : ev 119 7 (a0 :: some (.int x) :: ls) st σ = ev 119 8 (a0 :: some (.int x) :: ls) (.int x :: st) σ := e_iload1 k119_7 rfl
theorem k119_8 : cod 119 8 = some (.invokevirtual 155, 3, 37, 1, 0, 3) := rfl
theorem e119_8 (t : Nat) (x0 : Int32) (ls : mL) (st : List Value) (σ : mS) (hm : mCat st ≤ 8) : ev 119 8 ls (.int x0 :: .ref t :: st) σ = isC (σ.1 t) 3 ((evM 37 [.ref t, .int x0] σ).bind fun z => ev 119 11 ls (z.1.toList ++ st) z.2) := e_callVK k119_8 (by decide) rfl ⟨hm, Nat.le_of_ble_eq_true rfl⟩
theorem k119_11 : cod 119 11 = some (.ifCond .eq (13), 3, 24, 0, 0, 0) := rfl
theorem e119_11 (x : Int32) (ls : mL) (st : List Value) (σ : mS) : ev 119 11 ls (.int x :: st) σ = if x = 0 then ev 119 24 ls st σ else ev 119 14 ls st σ := e_if_eq k119_11
theorem k119_14 : cod 119 14 = some (.iload_n 2, 1, 0, 0, 0, 0) := rfl
theorem e119_14 (a0 a1 : Option Value) (x : Int32) (ls : mL) (st : List Value) (σ : mS) : ev 119 14 (a0 :: a1 :: some (.int x) :: ls) st σ = ev 119 15 (a0 :: a1 :: some (.int x) :: ls) (.int x :: st) σ := e_iload1 k119_14 rfl
theorem k119_15 : cod 119 15 = some (.iconst 0, 1, 0, 0, 0, 0) := rfl
theorem e119_15 (ls : mL) (st : List Value) (σ : mS) : ev 119 15 ls st σ = ev 119 16 ls (.int 0 :: st) σ := e_iconst 0 k119_15 (by decide)
theorem k119_16 : cod 119 16 = some (.bipush (8), 2, 0, 0, 0, 0) := rfl
theorem e119_16 (ls : mL) (st : List Value) (σ : mS) : ev 119 16 ls st σ = ev 119 18 ls (.int 8 :: st) σ := e_bipush 8 k119_16 (by decide)
theorem k119_18 : cod 119 18 = some (.invokestatic 78, 3, 87, 3, 0, 0) := rfl
theorem e119_18 (x0 : Int32) (x1 : Int32) (x2 : Int32) (ls : mL) (st : List Value) (σ : mS) (hm : mCat st ≤ 8) : ev 119 18 ls (.int x2 :: .int x1 :: .int x0 :: st) σ = (evM 87 [.int x0, .int x1, .int x2] σ).bind fun z => ev 119 21 ls (z.1.toList ++ st) z.2 := e_callS k119_18 (by decide) rfl ⟨hm, Nat.le_of_ble_eq_true rfl⟩
theorem k119_21 : cod 119 21 = some (.ifCond .ne (5), 3, 26, 0, 0, 0) := rfl
theorem e119_21 (x : Int32) (ls : mL) (st : List Value) (σ : mS) : ev 119 21 ls (.int x :: st) σ = if x = 0 then ev 119 24 ls st σ else ev 119 26 ls st σ := e_if_ne k119_21
theorem k119_24 : cod 119 24 = some (.iconst (-1), 1, 0, 0, 0, 0) := rfl
theorem e119_24 (ls : mL) (st : List Value) (σ : mS) : ev 119 24 ls st σ = ev 119 25 ls (.int (-1) :: st) σ := e_iconst (-1) k119_24 (by decide)
theorem k119_25 : cod 119 25 = some (.ireturn, 1, 0, 0, 0, 0) := rfl
theorem e119_25 (x : Int32) (ls : mL) (σ : mS) : ev 119 25 ls [.int x] σ = some (some (.int x), σ) := e_iret k119_25 rfl
theorem k119_26 : cod 119 26 = some (.aload_n 0, 1, 0, 0, 0, 0) := rfl
theorem e119_26 (x : Nat) (ls : mL) (st : List Value) (σ : mS) : ev 119 26 (some (.ref x) :: ls) st σ = ev 119 27 (some (.ref x) :: ls) (.ref x :: st) σ := e_aload1 k119_26 rfl
theorem k119_27 : cod 119 27 = some (.getfield 36, 3, 7, 4, 0, 3) := rfl
theorem e119_27 (t : Nat) (ls : mL) (st : List Value) (σ : mS) : ev 119 27 ls (.ref t :: st) σ = gfK (σ.1 t) 7 4 (fun v => ev 119 30 ls (v :: st) σ) := e_getf k119_27
theorem k119_30 : cod 119 30 = some (.getfield 213, 3, 0, 3, 1, 3) := rfl
theorem e119_30 (t : Nat) (ls : mL) (st : List Value) (σ : mS) : ev 119 30 ls (.ref t :: st) σ = gfK (σ.1 t) 0 3 (fun v => ev 119 33 ls (v :: st) σ) := e_getf k119_30
theorem k119_33 : cod 119 33 = some (.iload_n 1, 1, 0, 0, 0, 0) := rfl
theorem e119_33 (a0 : Option Value) (x : Int32) (ls : mL) (st : List Value) (σ : mS) : ev 119 33 (a0 :: some (.int x) :: ls) st σ = ev 119 34 (a0 :: some (.int x) :: ls) (.int x :: st) σ := e_iload1 k119_33 rfl
theorem k119_34 : cod 119 34 = some (.iload_n 2, 1, 0, 0, 0, 0) := rfl
theorem e119_34 (a0 a1 : Option Value) (x : Int32) (ls : mL) (st : List Value) (σ : mS) : ev 119 34 (a0 :: a1 :: some (.int x) :: ls) st σ = ev 119 35 (a0 :: a1 :: some (.int x) :: ls) (.int x :: st) σ := e_iload1 k119_34 rfl
theorem k119_35 : cod 119 35 = some (.invokevirtual 160, 3, 38, 2, 0, 3) := rfl
theorem e119_35 (t : Nat) (x0 : Int32) (x1 : Int32) (ls : mL) (st : List Value) (σ : mS) (hm : mCat st ≤ 8) : ev 119 35 ls (.int x1 :: .int x0 :: .ref t :: st) σ = isC (σ.1 t) 3 ((evM 38 [.ref t, .int x0, .int x1] σ).bind fun z => ev 119 38 ls (z.1.toList ++ st) z.2) := e_callVK k119_35 (by decide) rfl ⟨hm, Nat.le_of_ble_eq_true rfl⟩
theorem k119_38 : cod 119 38 = some (.ireturn, 1, 0, 0, 0, 0) := rfl
theorem e119_38 (x : Int32) (ls : mL) (σ : mS) : ev 119 38 ls [.int x] σ = some (some (.int x), σ) := e_iret k119_38 rfl
theorem m119 (t : Nat) (x0 : Int32) (x1 : Int32) (σ : mS) : evM 119 [.ref t, .int x0, .int x1] σ = ev 119 0 [some (.ref t), some (.int x0), some (.int x1)] [] σ := rfl
theorem k120_0 : cod 120 0 = some (.aload_n 0, 1, 0, 0, 0, 0) := rfl
theorem e120_0 (x : Nat) (ls : mL) (st : List Value) (σ : mS) : ev 120 0 (some (.ref x) :: ls) st σ = ev 120 1 (some (.ref x) :: ls) (.ref x :: st) σ := e_aload1 k120_0 rfl
theorem k120_1 : cod 120 1 = some (.getfield 36, 3, 7, 4, 0, 3) := rfl
theorem e120_1 (t : Nat) (ls : mL) (st : List Value) (σ : mS) : ev 120 1 ls (.ref t :: st) σ = gfK (σ.1 t) 7 4 (fun v => ev 120 4 ls (v :: st) σ) := e_getf k120_1
theorem k120_4 : cod 120 4 = some (.getfield 213, 3, 0, 3, 1, 3) := rfl
theorem e120_4 (t : Nat) (ls : mL) (st : List Value) (σ : mS) : ev 120 4 ls (.ref t :: st) σ = gfK (σ.1 t) 0 3 (fun v => ev 120 7 ls (v :: st) σ) := e_getf k120_4
theorem k120_7 : cod 120 7 = some (.iload_n 1, 1, 0, 0, 0, 0) := rfl
theorem e120_7 (a0 : Option Value) (x : Int32) (ls : mL) (st : List Value) (σ : mS) : ev 120 7 (a0 :: some (.int x) :: ls) st σ = ev 120 8 (a0 :: some (.int x) :: ls) (.int x :: st) σ := e_iload1 k120_7 rfl
theorem k120_8 : cod 120 8 = some (.invokevirtual 155, 3, 37, 1, 0, 3) := rfl
theorem e120_8 (t : Nat) (x0 : Int32) (ls : mL) (st : List Value) (σ : mS) (hm : mCat st ≤ 8) : ev 120 8 ls (.int x0 :: .ref t :: st) σ = isC (σ.1 t) 3 ((evM 37 [.ref t, .int x0] σ).bind fun z => ev 120 11 ls (z.1.toList ++ st) z.2) := e_callVK k120_8 (by decide) rfl ⟨hm, Nat.le_of_ble_eq_true rfl⟩
theorem k120_11 : cod 120 11 = some (.ifCond .ne (5), 3, 16, 0, 0, 0) := rfl
theorem e120_11 (x : Int32) (ls : mL) (st : List Value) (σ : mS) : ev 120 11 ls (.int x :: st) σ = if x = 0 then ev 120 14 ls st σ else ev 120 16 ls st σ := e_if_ne k120_11
theorem k120_14 : cod 120 14 = some (.iconst (-1), 1, 0, 0, 0, 0) := rfl
theorem e120_14 (ls : mL) (st : List Value) (σ : mS) : ev 120 14 ls st σ = ev 120 15 ls (.int (-1) :: st) σ := e_iconst (-1) k120_14 (by decide)
theorem k120_15 : cod 120 15 = some (.ireturn, 1, 0, 0, 0, 0) := rfl
theorem e120_15 (x : Int32) (ls : mL) (σ : mS) : ev 120 15 ls [.int x] σ = some (some (.int x), σ) := e_iret k120_15 rfl
theorem k120_16 : cod 120 16 = some (.aload_n 0, 1, 0, 0, 0, 0) := rfl
theorem e120_16 (x : Nat) (ls : mL) (st : List Value) (σ : mS) : ev 120 16 (some (.ref x) :: ls) st σ = ev 120 17 (some (.ref x) :: ls) (.ref x :: st) σ := e_aload1 k120_16 rfl
theorem k120_17 : cod 120 17 = some (.getfield 36, 3, 7, 4, 0, 3) := rfl
theorem e120_17 (t : Nat) (ls : mL) (st : List Value) (σ : mS) : ev 120 17 ls (.ref t :: st) σ = gfK (σ.1 t) 7 4 (fun v => ev 120 20 ls (v :: st) σ) := e_getf k120_17
theorem k120_20 : cod 120 20 = some (.aload_n 0, 1, 0, 0, 0, 0) := rfl
theorem e120_20 (x : Nat) (ls : mL) (st : List Value) (σ : mS) : ev 120 20 (some (.ref x) :: ls) st σ = ev 120 21 (some (.ref x) :: ls) (.ref x :: st) σ := e_aload1 k120_20 rfl
theorem k120_21 : cod 120 21 = some (.getfield 36, 3, 7, 4, 0, 3) := rfl
theorem e120_21 (t : Nat) (ls : mL) (st : List Value) (σ : mS) : ev 120 21 ls (.ref t :: st) σ = gfK (σ.1 t) 7 4 (fun v => ev 120 24 ls (v :: st) σ) := e_getf k120_21
theorem k120_24 : cod 120 24 = some (.getfield 213, 3, 0, 3, 1, 3) := rfl
theorem e120_24 (t : Nat) (ls : mL) (st : List Value) (σ : mS) : ev 120 24 ls (.ref t :: st) σ = gfK (σ.1 t) 0 3 (fun v => ev 120 27 ls (v :: st) σ) := e_getf k120_24
theorem k120_27 : cod 120 27 = some (.iload_n 1, 1, 0, 0, 0, 0) := rfl
theorem e120_27 (a0 : Option Value) (x : Int32) (ls : mL) (st : List Value) (σ : mS) : ev 120 27 (a0 :: some (.int x) :: ls) st σ = ev 120 28 (a0 :: some (.int x) :: ls) (.int x :: st) σ := e_iload1 k120_27 rfl
theorem k120_28 : cod 120 28 = some (.bipush (6), 2, 0, 0, 0, 0) := rfl
theorem e120_28 (ls : mL) (st : List Value) (σ : mS) : ev 120 28 ls st σ = ev 120 30 ls (.int 6 :: st) σ := e_bipush 6 k120_28 (by decide)
theorem k120_30 : cod 120 30 = some (.invokevirtual 160, 3, 38, 2, 0, 3) := rfl
theorem e120_30 (t : Nat) (x0 : Int32) (x1 : Int32) (ls : mL) (st : List Value) (σ : mS) (hm : mCat st ≤ 8) : ev 120 30 ls (.int x1 :: .int x0 :: .ref t :: st) σ = isC (σ.1 t) 3 ((evM 38 [.ref t, .int x0, .int x1] σ).bind fun z => ev 120 33 ls (z.1.toList ++ st) z.2) := e_callVK k120_30 (by decide) rfl ⟨hm, Nat.le_of_ble_eq_true rfl⟩
theorem k120_33 : cod 120 33 = some (.invokevirtual 225, 3, 16, 1, 0, 0) := rfl
theorem e120_33 (t : Nat) (x0 : Int32) (ls : mL) (st : List Value) (σ : mS) (hm : mCat st ≤ 8) : ev 120 33 ls (.int x0 :: .ref t :: st) σ = isC (σ.1 t) 0 ((evM 16 [.ref t, .int x0] σ).bind fun z => ev 120 36 ls (z.1.toList ++ st) z.2) := e_callVK k120_33 (by decide) rfl ⟨hm, Nat.le_of_ble_eq_true rfl⟩
theorem k120_36 : cod 120 36 = some (.istore_n 3, 1, 0, 0, 0, 0) := rfl
theorem e120_36i (a0 a1 : Option Value) (y : Int32) (o : Option Value) (x : Int32) (ls : mL) (st : List Value) (σ : mS) : ev 120 36 (a0 :: a1 :: some (.int y) :: o :: ls) (.int x :: st) σ = ev 120 37 (a0 :: a1 :: some (.int y) :: some (.int x) :: ls) st σ := e_istore1 k120_36 (Nat.le_add_left 4 ls.length)
theorem e120_36n (a0 a1 : Option Value) (o : Option Value) (x : Int32) (ls : mL) (st : List Value) (σ : mS) : ev 120 36 (a0 :: a1 :: none :: o :: ls) (.int x :: st) σ = ev 120 37 (a0 :: a1 :: none :: some (.int x) :: ls) st σ := e_istore1 k120_36 (Nat.le_add_left 4 ls.length)
theorem e120_36r (a0 a1 : Option Value) (y : Nat) (o : Option Value) (x : Int32) (ls : mL) (st : List Value) (σ : mS) : ev 120 36 (a0 :: a1 :: some (.ref y) :: o :: ls) (.int x :: st) σ = ev 120 37 (a0 :: a1 :: some (.ref y) :: some (.int x) :: ls) st σ := e_istore1 k120_36 (Nat.le_add_left 4 ls.length)
theorem k120_37 : cod 120 37 = some (.iload_n 2, 1, 0, 0, 0, 0) := rfl
theorem e120_37 (a0 a1 : Option Value) (x : Int32) (ls : mL) (st : List Value) (σ : mS) : ev 120 37 (a0 :: a1 :: some (.int x) :: ls) st σ = ev 120 38 (a0 :: a1 :: some (.int x) :: ls) (.int x :: st) σ := e_iload1 k120_37 rfl
theorem k120_38 : cod 120 38 = some (.iconst (-1), 1, 0, 0, 0, 0) := rfl
theorem e120_38 (ls : mL) (st : List Value) (σ : mS) : ev 120 38 ls st σ = ev 120 39 ls (.int (-1) :: st) σ := e_iconst (-1) k120_38 (by decide)
theorem k120_39 : cod 120 39 = some (.iload_n 3, 1, 0, 0, 0, 0) := rfl
theorem e120_39 (a0 a1 a2 : Option Value) (x : Int32) (ls : mL) (st : List Value) (σ : mS) : ev 120 39 (a0 :: a1 :: a2 :: some (.int x) :: ls) st σ = ev 120 40 (a0 :: a1 :: a2 :: some (.int x) :: ls) (.int x :: st) σ := e_iload1 k120_39 rfl
theorem k120_40 : cod 120 40 = some (.iconst 1, 1, 0, 0, 0, 0) := rfl
theorem e120_40 (ls : mL) (st : List Value) (σ : mS) : ev 120 40 ls st σ = ev 120 41 ls (.int 1 :: st) σ := e_iconst 1 k120_40 (by decide)
theorem k120_41 : cod 120 41 = some (.isub, 1, 0, 0, 0, 0) := rfl
theorem e120_41 (x y : Int32) (ls : mL) (st : List Value) (σ : mS) : ev 120 41 ls (.int y :: .int x :: st) σ = ev 120 42 ls (.int (x - y) :: st) σ := e_isub k120_41
theorem k120_42 : cod 120 42 = some (.invokestatic 78, 3, 87, 3, 0, 0) := rfl
theorem e120_42 (x0 : Int32) (x1 : Int32) (x2 : Int32) (ls : mL) (st : List Value) (σ : mS) (hm : mCat st ≤ 8) : ev 120 42 ls (.int x2 :: .int x1 :: .int x0 :: st) σ = (evM 87 [.int x0, .int x1, .int x2] σ).bind fun z => ev 120 45 ls (z.1.toList ++ st) z.2 := e_callS k120_42 (by decide) rfl ⟨hm, Nat.le_of_ble_eq_true rfl⟩
theorem k120_45 : cod 120 45 = some (.ifCond .ne (5), 3, 50, 0, 0, 0) := rfl
theorem e120_45 (x : Int32) (ls : mL) (st : List Value) (σ : mS) : ev 120 45 ls (.int x :: st) σ = if x = 0 then ev 120 48 ls st σ else ev 120 50 ls st σ := e_if_ne k120_45
theorem k120_48 : cod 120 48 = some (.iconst (-1), 1, 0, 0, 0, 0) := rfl
theorem e120_48 (ls : mL) (st : List Value) (σ : mS) : ev 120 48 ls st σ = ev 120 49 ls (.int (-1) :: st) σ := e_iconst (-1) k120_48 (by decide)
theorem k120_49 : cod 120 49 = some (.ireturn, 1, 0, 0, 0, 0) := rfl
theorem e120_49 (x : Int32) (ls : mL) (σ : mS) : ev 120 49 ls [.int x] σ = some (some (.int x), σ) := e_iret k120_49 rfl
theorem k120_50 : cod 120 50 = some (.iload_n 2, 1, 0, 0, 0, 0) := rfl
theorem e120_50 (a0 a1 : Option Value) (x : Int32) (ls : mL) (st : List Value) (σ : mS) : ev 120 50 (a0 :: a1 :: some (.int x) :: ls) st σ = ev 120 51 (a0 :: a1 :: some (.int x) :: ls) (.int x :: st) σ := e_iload1 k120_50 rfl
theorem k120_51 : cod 120 51 = some (.ifCond .ge (7), 3, 58, 0, 0, 0) := rfl
theorem e120_51 (x : Int32) (ls : mL) (st : List Value) (σ : mS) : ev 120 51 ls (.int x :: st) σ = if 0 ≤ x then ev 120 58 ls st σ else ev 120 54 ls st σ := e_if_ge k120_51
theorem k120_54 : cod 120 54 = some (.iload_n 3, 1, 0, 0, 0, 0) := rfl
theorem e120_54 (a0 a1 a2 : Option Value) (x : Int32) (ls : mL) (st : List Value) (σ : mS) : ev 120 54 (a0 :: a1 :: a2 :: some (.int x) :: ls) st σ = ev 120 55 (a0 :: a1 :: a2 :: some (.int x) :: ls) (.int x :: st) σ := e_iload1 k120_54 rfl
theorem k120_55 : cod 120 55 = some (.goto (24), 3, 79, 0, 0, 0) := rfl
theorem e120_55 (ls : mL) (st : List Value) (σ : mS) : ev 120 55 ls st σ = ev 120 79 ls st σ := e_goto k120_55
theorem k120_58 : cod 120 58 = some (.aload_n 0, 1, 0, 0, 0, 0) := rfl
theorem e120_58 (x : Nat) (ls : mL) (st : List Value) (σ : mS) : ev 120 58 (some (.ref x) :: ls) st σ = ev 120 59 (some (.ref x) :: ls) (.ref x :: st) σ := e_aload1 k120_58 rfl
theorem k120_59 : cod 120 59 = some (.getfield 36, 3, 7, 4, 0, 3) := rfl
theorem e120_59 (t : Nat) (ls : mL) (st : List Value) (σ : mS) : ev 120 59 ls (.ref t :: st) σ = gfK (σ.1 t) 7 4 (fun v => ev 120 62 ls (v :: st) σ) := e_getf k120_59
theorem k120_62 : cod 120 62 = some (.aload_n 0, 1, 0, 0, 0, 0) := rfl
theorem e120_62 (x : Nat) (ls : mL) (st : List Value) (σ : mS) : ev 120 62 (some (.ref x) :: ls) st σ = ev 120 63 (some (.ref x) :: ls) (.ref x :: st) σ := e_aload1 k120_62 rfl
theorem k120_63 : cod 120 63 = some (.getfield 36, 3, 7, 4, 0, 3) := rfl
theorem e120_63 (t : Nat) (ls : mL) (st : List Value) (σ : mS) : ev 120 63 ls (.ref t :: st) σ = gfK (σ.1 t) 7 4 (fun v => ev 120 66 ls (v :: st) σ) := e_getf k120_63
theorem k120_66 : cod 120 66 = some (.getfield 213, 3, 0, 3, 1, 3) := rfl
theorem e120_66 (t : Nat) (ls : mL) (st : List Value) (σ : mS) : ev 120 66 ls (.ref t :: st) σ = gfK (σ.1 t) 0 3 (fun v => ev 120 69 ls (v :: st) σ) := e_getf k120_66
theorem k120_69 : cod 120 69 = some (.iload_n 1, 1, 0, 0, 0, 0) := rfl
theorem e120_69 (a0 : Option Value) (x : Int32) (ls : mL) (st : List Value) (σ : mS) : ev 120 69 (a0 :: some (.int x) :: ls) st σ = ev 120 70 (a0 :: some (.int x) :: ls) (.int x :: st) σ := e_iload1 k120_69 rfl
theorem k120_70 : cod 120 70 = some (.bipush (6), 2, 0, 0, 0, 0) := rfl
theorem e120_70 (ls : mL) (st : List Value) (σ : mS) : ev 120 70 ls st σ = ev 120 72 ls (.int 6 :: st) σ := e_bipush 6 k120_70 (by decide)
theorem k120_72 : cod 120 72 = some (.invokevirtual 160, 3, 38, 2, 0, 3) := rfl
theorem e120_72 (t : Nat) (x0 : Int32) (x1 : Int32) (ls : mL) (st : List Value) (σ : mS) (hm : mCat st ≤ 8) : ev 120 72 ls (.int x1 :: .int x0 :: .ref t :: st) σ = isC (σ.1 t) 3 ((evM 38 [.ref t, .int x0, .int x1] σ).bind fun z => ev 120 75 ls (z.1.toList ++ st) z.2) := e_callVK k120_72 (by decide) rfl ⟨hm, Nat.le_of_ble_eq_true rfl⟩
theorem k120_75 : cod 120 75 = some (.iload_n 2, 1, 0, 0, 0, 0) := rfl
theorem e120_75 (a0 a1 : Option Value) (x : Int32) (ls : mL) (st : List Value) (σ : mS) : ev 120 75 (a0 :: a1 :: some (.int x) :: ls) st σ = ev 120 76 (a0 :: a1 :: some (.int x) :: ls) (.int x :: st) σ := e_iload1 k120_75 rfl
theorem k120_76 : cod 120 76 = some (.invokevirtual 228, 3, 17, 2, 0, 0) := rfl
theorem e120_76 (t : Nat) (x0 : Int32) (x1 : Int32) (ls : mL) (st : List Value) (σ : mS) (hm : mCat st ≤ 8) : ev 120 76 ls (.int x1 :: .int x0 :: .ref t :: st) σ = isC (σ.1 t) 0 ((evM 17 [.ref t, .int x0, .int x1] σ).bind fun z => ev 120 79 ls (z.1.toList ++ st) z.2) := e_callVK k120_76 (by decide) rfl ⟨hm, Nat.le_of_ble_eq_true rfl⟩
theorem k120_79 : cod 120 79 = some (.ireturn, 1, 0, 0, 0, 0) := rfl
theorem e120_79 (x : Int32) (ls : mL) (σ : mS) : ev 120 79 ls [.int x] σ = some (some (.int x), σ) := e_iret k120_79 rfl
theorem m120 (t : Nat) (x0 : Int32) (x1 : Int32) (σ : mS) : evM 120 [.ref t, .int x0, .int x1] σ = ev 120 0 [some (.ref t), some (.int x0), some (.int x1), none] [] σ := rfl
theorem k121_0 : cod 121 0 = some (.aload_n 0, 1, 0, 0, 0, 0) := rfl
theorem e121_0 (x : Nat) (ls : mL) (st : List Value) (σ : mS) : ev 121 0 (some (.ref x) :: ls) st σ = ev 121 1 (some (.ref x) :: ls) (.ref x :: st) σ := e_aload1 k121_0 rfl
theorem k121_1 : cod 121 1 = some (.getfield 36, 3, 7, 4, 0, 3) := rfl
theorem e121_1 (t : Nat) (ls : mL) (st : List Value) (σ : mS) : ev 121 1 ls (.ref t :: st) σ = gfK (σ.1 t) 7 4 (fun v => ev 121 4 ls (v :: st) σ) := e_getf k121_1
theorem k121_4 : cod 121 4 = some (.getfield 174, 3, 0, 1, 1, 3) := rfl
theorem e121_4 (t : Nat) (ls : mL) (st : List Value) (σ : mS) : ev 121 4 ls (.ref t :: st) σ = gfK (σ.1 t) 0 1 (fun v => ev 121 7 ls (v :: st) σ) := e_getf k121_4
theorem k121_7 : cod 121 7 = some (.iload_n 1, 1, 0, 0, 0, 0) := rfl
theorem e121_7 (a0 : Option Value) (x : Int32) (ls : mL) (st : List Value) (σ : mS) : ev 121 7 (a0 :: some (.int x) :: ls) st σ = ev 121 8 (a0 :: some (.int x) :: ls) (.int x :: st) σ := e_iload1 k121_7 rfl
theorem k121_8 : cod 121 8 = some (.invokevirtual 155, 3, 37, 1, 0, 3) := rfl
theorem e121_8 (t : Nat) (x0 : Int32) (ls : mL) (st : List Value) (σ : mS) (hm : mCat st ≤ 8) : ev 121 8 ls (.int x0 :: .ref t :: st) σ = isC (σ.1 t) 3 ((evM 37 [.ref t, .int x0] σ).bind fun z => ev 121 11 ls (z.1.toList ++ st) z.2) := e_callVK k121_8 (by decide) rfl ⟨hm, Nat.le_of_ble_eq_true rfl⟩
theorem k121_11 : cod 121 11 = some (.ifCond .eq (12), 3, 23, 0, 0, 0) := rfl
theorem e121_11 (x : Int32) (ls : mL) (st : List Value) (σ : mS) : ev 121 11 ls (.int x :: st) σ = if x = 0 then ev 121 23 ls st σ else ev 121 14 ls st σ := e_if_eq k121_11
theorem k121_14 : cod 121 14 = some (.iload_n 2, 1, 0, 0, 0, 0) := rfl
theorem e121_14 (a0 a1 : Option Value) (x : Int32) (ls : mL) (st : List Value) (σ : mS) : ev 121 14 (a0 :: a1 :: some (.int x) :: ls) st σ = ev 121 15 (a0 :: a1 :: some (.int x) :: ls) (.int x :: st) σ := e_iload1 k121_14 rfl
theorem k121_15 : cod 121 15 = some (.iconst 0, 1, 0, 0, 0, 0) := rfl
theorem e121_15 (ls : mL) (st : List Value) (σ : mS) : ev 121 15 ls st σ = ev 121 16 ls (.int 0 :: st) σ := e_iconst 0 k121_15 (by decide)
theorem k121_16 : cod 121 16 = some (.iconst 3, 1, 0, 0, 0, 0) := rfl
theorem e121_16 (ls : mL) (st : List Value) (σ : mS) : ev 121 16 ls st σ = ev 121 17 ls (.int 3 :: st) σ := e_iconst 3 k121_16 (by decide)
theorem k121_17 : cod 121 17 = some (.invokestatic 78, 3, 87, 3, 0, 0) := rfl
theorem e121_17 (x0 : Int32) (x1 : Int32) (x2 : Int32) (ls : mL) (st : List Value) (σ : mS) (hm : mCat st ≤ 8) : ev 121 17 ls (.int x2 :: .int x1 :: .int x0 :: st) σ = (evM 87 [.int x0, .int x1, .int x2] σ).bind fun z => ev 121 20 ls (z.1.toList ++ st) z.2 := e_callS k121_17 (by decide) rfl ⟨hm, Nat.le_of_ble_eq_true rfl⟩
theorem k121_20 : cod 121 20 = some (.ifCond .ne (5), 3, 25, 0, 0, 0) := rfl
theorem e121_20 (x : Int32) (ls : mL) (st : List Value) (σ : mS) : ev 121 20 ls (.int x :: st) σ = if x = 0 then ev 121 23 ls st σ else ev 121 25 ls st σ := e_if_ne k121_20
theorem k121_23 : cod 121 23 = some (.iconst (-1), 1, 0, 0, 0, 0) := rfl
theorem e121_23 (ls : mL) (st : List Value) (σ : mS) : ev 121 23 ls st σ = ev 121 24 ls (.int (-1) :: st) σ := e_iconst (-1) k121_23 (by decide)
theorem k121_24 : cod 121 24 = some (.ireturn, 1, 0, 0, 0, 0) := rfl
theorem e121_24 (x : Int32) (ls : mL) (σ : mS) : ev 121 24 ls [.int x] σ = some (some (.int x), σ) := e_iret k121_24 rfl
theorem k121_25 : cod 121 25 = some (.aload_n 0, 1, 0, 0, 0, 0) := rfl
theorem e121_25 (x : Nat) (ls : mL) (st : List Value) (σ : mS) : ev 121 25 (some (.ref x) :: ls) st σ = ev 121 26 (some (.ref x) :: ls) (.ref x :: st) σ := e_aload1 k121_25 rfl
theorem k121_26 : cod 121 26 = some (.getfield 36, 3, 7, 4, 0, 3) := rfl
theorem e121_26 (t : Nat) (ls : mL) (st : List Value) (σ : mS) : ev 121 26 ls (.ref t :: st) σ = gfK (σ.1 t) 7 4 (fun v => ev 121 29 ls (v :: st) σ) := e_getf k121_26
theorem k121_29 : cod 121 29 = some (.getfield 174, 3, 0, 1, 1, 3) := rfl
theorem e121_29 (t : Nat) (ls : mL) (st : List Value) (σ : mS) : ev 121 29 ls (.ref t :: st) σ = gfK (σ.1 t) 0 1 (fun v => ev 121 32 ls (v :: st) σ) := e_getf k121_29
theorem k121_32 : cod 121 32 = some (.iload_n 1, 1, 0, 0, 0, 0) := rfl
theorem e121_32 (a0 : Option Value) (x : Int32) (ls : mL) (st : List Value) (σ : mS) : ev 121 32 (a0 :: some (.int x) :: ls) st σ = ev 121 33 (a0 :: some (.int x) :: ls) (.int x :: st) σ := e_iload1 k121_32 rfl
theorem k121_33 : cod 121 33 = some (.iload_n 2, 1, 0, 0, 0, 0) := rfl
theorem e121_33 (a0 a1 : Option Value) (x : Int32) (ls : mL) (st : List Value) (σ : mS) : ev 121 33 (a0 :: a1 :: some (.int x) :: ls) st σ = ev 121 34 (a0 :: a1 :: some (.int x) :: ls) (.int x :: st) σ := e_iload1 k121_33 rfl
theorem k121_34 : cod 121 34 = some (.invokevirtual 160, 3, 38, 2, 0, 3) := rfl
theorem e121_34 (t : Nat) (x0 : Int32) (x1 : Int32) (ls : mL) (st : List Value) (σ : mS) (hm : mCat st ≤ 8) : ev 121 34 ls (.int x1 :: .int x0 :: .ref t :: st) σ = isC (σ.1 t) 3 ((evM 38 [.ref t, .int x0, .int x1] σ).bind fun z => ev 121 37 ls (z.1.toList ++ st) z.2) := e_callVK k121_34 (by decide) rfl ⟨hm, Nat.le_of_ble_eq_true rfl⟩
theorem k121_37 : cod 121 37 = some (.ireturn, 1, 0, 0, 0, 0) := rfl
theorem e121_37 (x : Int32) (ls : mL) (σ : mS) : ev 121 37 ls [.int x] σ = some (some (.int x), σ) := e_iret k121_37 rfl
theorem m121 (t : Nat) (x0 : Int32) (x1 : Int32) (σ : mS) : evM 121 [.ref t, .int x0, .int x1] σ = ev 121 0 [some (.ref t), some (.int x0), some (.int x1)] [] σ := rfl
theorem k122_0 : cod 122 0 = some (.aload_n 0, 1, 0, 0, 0, 0) := rfl
theorem e122_0 (x : Nat) (ls : mL) (st : List Value) (σ : mS) : ev 122 0 (some (.ref x) :: ls) st σ = ev 122 1 (some (.ref x) :: ls) (.ref x :: st) σ := e_aload1 k122_0 rfl
theorem k122_1 : cod 122 1 = some (.getfield 36, 3, 7, 4, 0, 3) := rfl
theorem e122_1 (t : Nat) (ls : mL) (st : List Value) (σ : mS) : ev 122 1 ls (.ref t :: st) σ = gfK (σ.1 t) 7 4 (fun v => ev 122 4 ls (v :: st) σ) := e_getf k122_1
theorem k122_4 : cod 122 4 = some (.getfield 151, 3, 0, 0, 1, 3) := rfl
theorem e122_4 (t : Nat) (ls : mL) (st : List Value) (σ : mS) : ev 122 4 ls (.ref t :: st) σ = gfK (σ.1 t) 0 0 (fun v => ev 122 7 ls (v :: st) σ) := e_getf k122_4
theorem k122_7 : cod 122 7 = some (.iload_n 1, 1, 0, 0, 0, 0) := rfl
theorem e122_7 (a0 : Option Value) (x : Int32) (ls : mL) (st : List Value) (σ : mS) : ev 122 7 (a0 :: some (.int x) :: ls) st σ = ev 122 8 (a0 :: some (.int x) :: ls) (.int x :: st) σ := e_iload1 k122_7 rfl
theorem k122_8 : cod 122 8 = some (.invokevirtual 155, 3, 37, 1, 0, 3) := rfl
theorem e122_8 (t : Nat) (x0 : Int32) (ls : mL) (st : List Value) (σ : mS) (hm : mCat st ≤ 8) : ev 122 8 ls (.int x0 :: .ref t :: st) σ = isC (σ.1 t) 3 ((evM 37 [.ref t, .int x0] σ).bind fun z => ev 122 11 ls (z.1.toList ++ st) z.2) := e_callVK k122_8 (by decide) rfl ⟨hm, Nat.le_of_ble_eq_true rfl⟩
theorem k122_11 : cod 122 11 = some (.ifCond .eq (12), 3, 23, 0, 0, 0) := rfl
theorem e122_11 (x : Int32) (ls : mL) (st : List Value) (σ : mS) : ev 122 11 ls (.int x :: st) σ = if x = 0 then ev 122 23 ls st σ else ev 122 14 ls st σ := e_if_eq k122_11
theorem k122_14 : cod 122 14 = some (.iload_n 2, 1, 0, 0, 0, 0) := rfl
theorem e122_14 (a0 a1 : Option Value) (x : Int32) (ls : mL) (st : List Value) (σ : mS) : ev 122 14 (a0 :: a1 :: some (.int x) :: ls) st σ = ev 122 15 (a0 :: a1 :: some (.int x) :: ls) (.int x :: st) σ := e_iload1 k122_14 rfl
theorem k122_15 : cod 122 15 = some (.iconst 0, 1, 0, 0, 0, 0) := rfl
theorem e122_15 (ls : mL) (st : List Value) (σ : mS) : ev 122 15 ls st σ = ev 122 16 ls (.int 0 :: st) σ := e_iconst 0 k122_15 (by decide)
theorem k122_16 : cod 122 16 = some (.iconst 2, 1, 0, 0, 0, 0) := rfl
theorem e122_16 (ls : mL) (st : List Value) (σ : mS) : ev 122 16 ls st σ = ev 122 17 ls (.int 2 :: st) σ := e_iconst 2 k122_16 (by decide)
theorem k122_17 : cod 122 17 = some (.invokestatic 78, 3, 87, 3, 0, 0) := rfl
theorem e122_17 (x0 : Int32) (x1 : Int32) (x2 : Int32) (ls : mL) (st : List Value) (σ : mS) (hm : mCat st ≤ 8) : ev 122 17 ls (.int x2 :: .int x1 :: .int x0 :: st) σ = (evM 87 [.int x0, .int x1, .int x2] σ).bind fun z => ev 122 20 ls (z.1.toList ++ st) z.2 := e_callS k122_17 (by decide) rfl ⟨hm, Nat.le_of_ble_eq_true rfl⟩
theorem k122_20 : cod 122 20 = some (.ifCond .ne (5), 3, 25, 0, 0, 0) := rfl
theorem e122_20 (x : Int32) (ls : mL) (st : List Value) (σ : mS) : ev 122 20 ls (.int x :: st) σ = if x = 0 then ev 122 23 ls st σ else ev 122 25 ls st σ := e_if_ne k122_20
theorem k122_23 : cod 122 23 = some (.iconst (-1), 1, 0, 0, 0, 0) := rfl
theorem e122_23 (ls : mL) (st : List Value) (σ : mS) : ev 122 23 ls st σ = ev 122 24 ls (.int (-1) :: st) σ := e_iconst (-1) k122_23 (by decide)
theorem k122_24 : cod 122 24 = some (.ireturn, 1, 0, 0, 0, 0) := rfl
theorem e122_24 (x : Int32) (ls : mL) (σ : mS) : ev 122 24 ls [.int x] σ = some (some (.int x), σ) := e_iret k122_24 rfl
theorem k122_25 : cod 122 25 = some (.aload_n 0, 1, 0, 0, 0, 0) := rfl
theorem e122_25 (x : Nat) (ls : mL) (st : List Value) (σ : mS) : ev 122 25 (some (.ref x) :: ls) st σ = ev 122 26 (some (.ref x) :: ls) (.ref x :: st) σ := e_aload1 k122_25 rfl
theorem k122_26 : cod 122 26 = some (.getfield 36, 3, 7, 4, 0, 3) := rfl
theorem e122_26 (t : Nat) (ls : mL) (st : List Value) (σ : mS) : ev 122 26 ls (.ref t :: st) σ = gfK (σ.1 t) 7 4 (fun v => ev 122 29 ls (v :: st) σ) := e_getf k122_26
theorem k122_29 : cod 122 29 = some (.getfield 151, 3, 0, 0, 1, 3) := rfl
theorem e122_29 (t : Nat) (ls : mL) (st : List Value) (σ : mS) : ev 122 29 ls (.ref t :: st) σ = gfK (σ.1 t) 0 0 (fun v => ev 122 32 ls (v :: st) σ) := e_getf k122_29
theorem k122_32 : cod 122 32 = some (.iload_n 1, 1, 0, 0, 0, 0) := rfl
theorem e122_32 (a0 : Option Value) (x : Int32) (ls : mL) (st : List Value) (σ : mS) : ev 122 32 (a0 :: some (.int x) :: ls) st σ = ev 122 33 (a0 :: some (.int x) :: ls) (.int x :: st) σ := e_iload1 k122_32 rfl
theorem k122_33 : cod 122 33 = some (.iload_n 2, 1, 0, 0, 0, 0) := rfl
theorem e122_33 (a0 a1 : Option Value) (x : Int32) (ls : mL) (st : List Value) (σ : mS) : ev 122 33 (a0 :: a1 :: some (.int x) :: ls) st σ = ev 122 34 (a0 :: a1 :: some (.int x) :: ls) (.int x :: st) σ := e_iload1 k122_33 rfl
theorem k122_34 : cod 122 34 = some (.invokevirtual 160, 3, 38, 2, 0, 3) := rfl
theorem e122_34 (t : Nat) (x0 : Int32) (x1 : Int32) (ls : mL) (st : List Value) (σ : mS) (hm : mCat st ≤ 8) : ev 122 34 ls (.int x1 :: .int x0 :: .ref t :: st) σ = isC (σ.1 t) 3 ((evM 38 [.ref t, .int x0, .int x1] σ).bind fun z => ev 122 37 ls (z.1.toList ++ st) z.2) := e_callVK k122_34 (by decide) rfl ⟨hm, Nat.le_of_ble_eq_true rfl⟩
theorem k122_37 : cod 122 37 = some (.ireturn, 1, 0, 0, 0, 0) := rfl
theorem e122_37 (x : Int32) (ls : mL) (σ : mS) : ev 122 37 ls [.int x] σ = some (some (.int x), σ) := e_iret k122_37 rfl
theorem m122 (t : Nat) (x0 : Int32) (x1 : Int32) (σ : mS) : evM 122 [.ref t, .int x0, .int x1] σ = ev 122 0 [some (.ref t), some (.int x0), some (.int x1)] [] σ := rfl
theorem k123_0 : cod 123 0 = some (.iload_n 1, 1, 0, 0, 0, 0) := rfl
theorem e123_0 (a0 : Option Value) (x : Int32) (ls : mL) (st : List Value) (σ : mS) : ev 123 0 (a0 :: some (.int x) :: ls) st σ = ev 123 1 (a0 :: some (.int x) :: ls) (.int x :: st) σ := e_iload1 k123_0 rfl
theorem k123_1 : cod 123 1 = some (.tableswitch (75) (0) (3) #[31, 42, 53, 64], 31, 0, 0, 0, 0) := rfl
theorem e123_1 (x : Int32) (ls : mL) (st : List Value) (σ : mS) : ev 123 1 ls (.int x :: st) σ = if x = 0 then ev 123 32 ls st σ else if x = 1 then ev 123 43 ls st σ else if x = 2 then ev 123 54 ls st σ else if x = 3 then ev 123 65 ls st σ else ev 123 76 ls st σ := by
  rw [e_sw k123_1]
  by_cases h0 : x = 0
  · subst h0; rfl
  rw [if_neg h0]
  by_cases h1 : x = 1
  · subst h1; rfl
  rw [if_neg h1]
  by_cases h2 : x = 2
  · subst h2; rfl
  rw [if_neg h2]
  by_cases h3 : x = 3
  · subst h3; rfl
  rw [if_neg h3]
  rw [swT_out (n := 4) (df := 75) (lo := 0) (hi := 3) (off := #[31, 42, 53, 64]) rfl rfl (by intro j hj; match j, hj with
    | 0, _ => exact h0
    | 1, _ => exact h1
    | 2, _ => exact h2
    | 3, _ => exact h3
    | j + 4, hj => exact absurd hj (by omega))]
  rfl
theorem k123_32 : cod 123 32 = some (.aload_n 0, 1, 0, 0, 0, 0) := rfl
theorem e123_32 (x : Nat) (ls : mL) (st : List Value) (σ : mS) : ev 123 32 (some (.ref x) :: ls) st σ = ev 123 33 (some (.ref x) :: ls) (.ref x :: st) σ := e_aload1 k123_32 rfl
theorem k123_33 : cod 123 33 = some (.getfield 26, 3, 7, 2, 0, 3) := rfl
theorem e123_33 (t : Nat) (ls : mL) (st : List Value) (σ : mS) : ev 123 33 ls (.ref t :: st) σ = gfK (σ.1 t) 7 2 (fun v => ev 123 36 ls (v :: st) σ) := e_getf k123_33
theorem k123_36 : cod 123 36 = some (.getfield 64, 3, 6, 16, 1, 3) := rfl
theorem e123_36 (t : Nat) (ls : mL) (st : List Value) (σ : mS) : ev 123 36 ls (.ref t :: st) σ = gfK (σ.1 t) 6 16 (fun v => ev 123 39 ls (v :: st) σ) := e_getf k123_36
theorem k123_39 : cod 123 39 = some (.getfield 231, 3, 2, 0, 1, 0) := rfl
theorem e123_39 (t : Nat) (ls : mL) (st : List Value) (σ : mS) : ev 123 39 ls (.ref t :: st) σ = gfK (σ.1 t) 2 0 (fun v => ev 123 42 ls (v :: st) σ) := e_getf k123_39
theorem k123_42 : cod 123 42 = some (.ireturn, 1, 0, 0, 0, 0) := rfl
theorem e123_42 (x : Int32) (ls : mL) (σ : mS) : ev 123 42 ls [.int x] σ = some (some (.int x), σ) := e_iret k123_42 rfl
theorem k123_43 : cod 123 43 = some (.aload_n 0, 1, 0, 0, 0, 0) := rfl
theorem e123_43 (x : Nat) (ls : mL) (st : List Value) (σ : mS) : ev 123 43 (some (.ref x) :: ls) st σ = ev 123 44 (some (.ref x) :: ls) (.ref x :: st) σ := e_aload1 k123_43 rfl
theorem k123_44 : cod 123 44 = some (.getfield 26, 3, 7, 2, 0, 3) := rfl
theorem e123_44 (t : Nat) (ls : mL) (st : List Value) (σ : mS) : ev 123 44 ls (.ref t :: st) σ = gfK (σ.1 t) 7 2 (fun v => ev 123 47 ls (v :: st) σ) := e_getf k123_44
theorem k123_47 : cod 123 47 = some (.getfield 64, 3, 6, 16, 1, 3) := rfl
theorem e123_47 (t : Nat) (ls : mL) (st : List Value) (σ : mS) : ev 123 47 ls (.ref t :: st) σ = gfK (σ.1 t) 6 16 (fun v => ev 123 50 ls (v :: st) σ) := e_getf k123_47
theorem k123_50 : cod 123 50 = some (.getfield 234, 3, 2, 1, 1, 0) := rfl
theorem e123_50 (t : Nat) (ls : mL) (st : List Value) (σ : mS) : ev 123 50 ls (.ref t :: st) σ = gfK (σ.1 t) 2 1 (fun v => ev 123 53 ls (v :: st) σ) := e_getf k123_50
theorem k123_53 : cod 123 53 = some (.ireturn, 1, 0, 0, 0, 0) := rfl
theorem e123_53 (x : Int32) (ls : mL) (σ : mS) : ev 123 53 ls [.int x] σ = some (some (.int x), σ) := e_iret k123_53 rfl
theorem k123_54 : cod 123 54 = some (.aload_n 0, 1, 0, 0, 0, 0) := rfl
theorem e123_54 (x : Nat) (ls : mL) (st : List Value) (σ : mS) : ev 123 54 (some (.ref x) :: ls) st σ = ev 123 55 (some (.ref x) :: ls) (.ref x :: st) σ := e_aload1 k123_54 rfl
theorem k123_55 : cod 123 55 = some (.getfield 26, 3, 7, 2, 0, 3) := rfl
theorem e123_55 (t : Nat) (ls : mL) (st : List Value) (σ : mS) : ev 123 55 ls (.ref t :: st) σ = gfK (σ.1 t) 7 2 (fun v => ev 123 58 ls (v :: st) σ) := e_getf k123_55
theorem k123_58 : cod 123 58 = some (.getfield 64, 3, 6, 16, 1, 3) := rfl
theorem e123_58 (t : Nat) (ls : mL) (st : List Value) (σ : mS) : ev 123 58 ls (.ref t :: st) σ = gfK (σ.1 t) 6 16 (fun v => ev 123 61 ls (v :: st) σ) := e_getf k123_58
theorem k123_61 : cod 123 61 = some (.getfield 237, 3, 2, 2, 1, 0) := rfl
theorem e123_61 (t : Nat) (ls : mL) (st : List Value) (σ : mS) : ev 123 61 ls (.ref t :: st) σ = gfK (σ.1 t) 2 2 (fun v => ev 123 64 ls (v :: st) σ) := e_getf k123_61
theorem k123_64 : cod 123 64 = some (.ireturn, 1, 0, 0, 0, 0) := rfl
theorem e123_64 (x : Int32) (ls : mL) (σ : mS) : ev 123 64 ls [.int x] σ = some (some (.int x), σ) := e_iret k123_64 rfl
theorem k123_65 : cod 123 65 = some (.aload_n 0, 1, 0, 0, 0, 0) := rfl
theorem e123_65 (x : Nat) (ls : mL) (st : List Value) (σ : mS) : ev 123 65 (some (.ref x) :: ls) st σ = ev 123 66 (some (.ref x) :: ls) (.ref x :: st) σ := e_aload1 k123_65 rfl
theorem k123_66 : cod 123 66 = some (.getfield 26, 3, 7, 2, 0, 3) := rfl
theorem e123_66 (t : Nat) (ls : mL) (st : List Value) (σ : mS) : ev 123 66 ls (.ref t :: st) σ = gfK (σ.1 t) 7 2 (fun v => ev 123 69 ls (v :: st) σ) := e_getf k123_66
theorem k123_69 : cod 123 69 = some (.getfield 64, 3, 6, 16, 1, 3) := rfl
theorem e123_69 (t : Nat) (ls : mL) (st : List Value) (σ : mS) : ev 123 69 ls (.ref t :: st) σ = gfK (σ.1 t) 6 16 (fun v => ev 123 72 ls (v :: st) σ) := e_getf k123_69
theorem k123_72 : cod 123 72 = some (.getfield 238, 3, 2, 3, 1, 0) := rfl
theorem e123_72 (t : Nat) (ls : mL) (st : List Value) (σ : mS) : ev 123 72 ls (.ref t :: st) σ = gfK (σ.1 t) 2 3 (fun v => ev 123 75 ls (v :: st) σ) := e_getf k123_72
theorem k123_75 : cod 123 75 = some (.ireturn, 1, 0, 0, 0, 0) := rfl
theorem e123_75 (x : Int32) (ls : mL) (σ : mS) : ev 123 75 ls [.int x] σ = some (some (.int x), σ) := e_iret k123_75 rfl
theorem k123_76 : cod 123 76 = some (.iconst (-1), 1, 0, 0, 0, 0) := rfl
theorem e123_76 (ls : mL) (st : List Value) (σ : mS) : ev 123 76 ls st σ = ev 123 77 ls (.int (-1) :: st) σ := e_iconst (-1) k123_76 (by decide)
theorem k123_77 : cod 123 77 = some (.ireturn, 1, 0, 0, 0, 0) := rfl
theorem e123_77 (x : Int32) (ls : mL) (σ : mS) : ev 123 77 ls [.int x] σ = some (some (.int x), σ) := e_iret k123_77 rfl
theorem m123 (t : Nat) (x0 : Int32) (σ : mS) : evM 123 [.ref t, .int x0] σ = ev 123 0 [some (.ref t), some (.int x0)] [] σ := rfl
theorem k124_0 : cod 124 0 = some (.aload_n 0, 1, 0, 0, 0, 0) := rfl
theorem e124_0 (x : Nat) (ls : mL) (st : List Value) (σ : mS) : ev 124 0 (some (.ref x) :: ls) st σ = ev 124 1 (some (.ref x) :: ls) (.ref x :: st) σ := e_aload1 k124_0 rfl
theorem k124_1 : cod 124 1 = some (.getfield 36, 3, 7, 4, 0, 3) := rfl
theorem e124_1 (t : Nat) (ls : mL) (st : List Value) (σ : mS) : ev 124 1 ls (.ref t :: st) σ = gfK (σ.1 t) 7 4 (fun v => ev 124 4 ls (v :: st) σ) := e_getf k124_1
theorem k124_4 : cod 124 4 = some (.getfield 174, 3, 0, 1, 1, 3) := rfl
theorem e124_4 (t : Nat) (ls : mL) (st : List Value) (σ : mS) : ev 124 4 ls (.ref t :: st) σ = gfK (σ.1 t) 0 1 (fun v => ev 124 7 ls (v :: st) σ) := e_getf k124_4
theorem k124_7 : cod 124 7 = some (.iload_n 1, 1, 0, 0, 0, 0) := rfl
theorem e124_7 (a0 : Option Value) (x : Int32) (ls : mL) (st : List Value) (σ : mS) : ev 124 7 (a0 :: some (.int x) :: ls) st σ = ev 124 8 (a0 :: some (.int x) :: ls) (.int x :: st) σ := e_iload1 k124_7 rfl
theorem k124_8 : cod 124 8 = some (.invokevirtual 155, 3, 37, 1, 0, 3) := rfl
theorem e124_8 (t : Nat) (x0 : Int32) (ls : mL) (st : List Value) (σ : mS) (hm : mCat st ≤ 8) : ev 124 8 ls (.int x0 :: .ref t :: st) σ = isC (σ.1 t) 3 ((evM 37 [.ref t, .int x0] σ).bind fun z => ev 124 11 ls (z.1.toList ++ st) z.2) := e_callVK k124_8 (by decide) rfl ⟨hm, Nat.le_of_ble_eq_true rfl⟩
theorem k124_11 : cod 124 11 = some (.ifCond .eq (19), 3, 30, 0, 0, 0) := rfl
theorem e124_11 (x : Int32) (ls : mL) (st : List Value) (σ : mS) : ev 124 11 ls (.int x :: st) σ = if x = 0 then ev 124 30 ls st σ else ev 124 14 ls st σ := e_if_eq k124_11
theorem k124_14 : cod 124 14 = some (.iload_n 2, 1, 0, 0, 0, 0) := rfl
theorem e124_14 (a0 a1 : Option Value) (x : Int32) (ls : mL) (st : List Value) (σ : mS) : ev 124 14 (a0 :: a1 :: some (.int x) :: ls) st σ = ev 124 15 (a0 :: a1 :: some (.int x) :: ls) (.int x :: st) σ := e_iload1 k124_14 rfl
theorem k124_15 : cod 124 15 = some (.invokestatic 112, 3, 92, 1, 0, 0) := rfl
theorem e124_15 (x0 : Int32) (ls : mL) (st : List Value) (σ : mS) (hm : mCat st ≤ 8) : ev 124 15 ls (.int x0 :: st) σ = (evM 92 [.int x0] σ).bind fun z => ev 124 18 ls (z.1.toList ++ st) z.2 := e_callS k124_15 (by decide) rfl ⟨hm, Nat.le_of_ble_eq_true rfl⟩
theorem k124_18 : cod 124 18 = some (.ifCond .eq (12), 3, 30, 0, 0, 0) := rfl
theorem e124_18 (x : Int32) (ls : mL) (st : List Value) (σ : mS) : ev 124 18 ls (.int x :: st) σ = if x = 0 then ev 124 30 ls st σ else ev 124 21 ls st σ := e_if_eq k124_18
theorem k124_21 : cod 124 21 = some (.iload_n 3, 1, 0, 0, 0, 0) := rfl
theorem e124_21 (a0 a1 a2 : Option Value) (x : Int32) (ls : mL) (st : List Value) (σ : mS) : ev 124 21 (a0 :: a1 :: a2 :: some (.int x) :: ls) st σ = ev 124 22 (a0 :: a1 :: a2 :: some (.int x) :: ls) (.int x :: st) σ := e_iload1 k124_21 rfl
theorem k124_22 : cod 124 22 = some (.iconst 0, 1, 0, 0, 0, 0) := rfl
theorem e124_22 (ls : mL) (st : List Value) (σ : mS) : ev 124 22 ls st σ = ev 124 23 ls (.int 0 :: st) σ := e_iconst 0 k124_22 (by decide)
theorem k124_23 : cod 124 23 = some (.iconst 1, 1, 0, 0, 0, 0) := rfl
theorem e124_23 (ls : mL) (st : List Value) (σ : mS) : ev 124 23 ls st σ = ev 124 24 ls (.int 1 :: st) σ := e_iconst 1 k124_23 (by decide)
theorem k124_24 : cod 124 24 = some (.invokestatic 78, 3, 87, 3, 0, 0) := rfl
theorem e124_24 (x0 : Int32) (x1 : Int32) (x2 : Int32) (ls : mL) (st : List Value) (σ : mS) (hm : mCat st ≤ 8) : ev 124 24 ls (.int x2 :: .int x1 :: .int x0 :: st) σ = (evM 87 [.int x0, .int x1, .int x2] σ).bind fun z => ev 124 27 ls (z.1.toList ++ st) z.2 := e_callS k124_24 (by decide) rfl ⟨hm, Nat.le_of_ble_eq_true rfl⟩
theorem k124_27 : cod 124 27 = some (.ifCond .ne (7), 3, 34, 0, 0, 0) := rfl
theorem e124_27 (x : Int32) (ls : mL) (st : List Value) (σ : mS) : ev 124 27 ls (.int x :: st) σ = if x = 0 then ev 124 30 ls st σ else ev 124 34 ls st σ := e_if_ne k124_27
theorem k124_30 : cod 124 30 = some (.ldc2_w 241, 3, 1, 0, 1, 0) := rfl
theorem e124_30 (ls : mL) (st : List Value) (σ : mS) : ev 124 30 ls st σ = ev 124 33 ls (.long (-1) :: st) σ := e_ldc2 (-1) k124_30 (by decide)
theorem k124_33 : cod 124 33 = some (.lreturn, 1, 0, 0, 0, 0) := rfl
theorem e124_33 (x : Int64) (ls : mL) (σ : mS) : ev 124 33 ls [.long x] σ = some (some (.long x), σ) := e_lret k124_33 rfl
theorem k124_34 : cod 124 34 = some (.aload_n 0, 1, 0, 0, 0, 0) := rfl
theorem e124_34 (x : Nat) (ls : mL) (st : List Value) (σ : mS) : ev 124 34 (some (.ref x) :: ls) st σ = ev 124 35 (some (.ref x) :: ls) (.ref x :: st) σ := e_aload1 k124_34 rfl
theorem k124_35 : cod 124 35 = some (.getfield 36, 3, 7, 4, 0, 3) := rfl
theorem e124_35 (t : Nat) (ls : mL) (st : List Value) (σ : mS) : ev 124 35 ls (.ref t :: st) σ = gfK (σ.1 t) 7 4 (fun v => ev 124 38 ls (v :: st) σ) := e_getf k124_35
theorem k124_38 : cod 124 38 = some (.getfield 213, 3, 0, 3, 1, 3) := rfl
theorem e124_38 (t : Nat) (ls : mL) (st : List Value) (σ : mS) : ev 124 38 ls (.ref t :: st) σ = gfK (σ.1 t) 0 3 (fun v => ev 124 41 ls (v :: st) σ) := e_getf k124_38
theorem k124_41 : cod 124 41 = some (.getfield 243, 3, 3, 3, 1, 0) := rfl
theorem e124_41 (t : Nat) (ls : mL) (st : List Value) (σ : mS) : ev 124 41 ls (.ref t :: st) σ = gfK (σ.1 t) 3 3 (fun v => ev 124 44 ls (v :: st) σ) := e_getf k124_41
theorem k124_44 : cod 124 44 = some (.istore 4, 2, 0, 0, 0, 0) := rfl
theorem e124_44i (a0 a1 a2 : Option Value) (y : Int32) (o : Option Value) (x : Int32) (ls : mL) (st : List Value) (σ : mS) : ev 124 44 (a0 :: a1 :: a2 :: some (.int y) :: o :: ls) (.int x :: st) σ = ev 124 46 (a0 :: a1 :: a2 :: some (.int y) :: some (.int x) :: ls) st σ := e_istore0 k124_44 (Nat.le_add_left 5 ls.length)
theorem e124_44n (a0 a1 a2 : Option Value) (o : Option Value) (x : Int32) (ls : mL) (st : List Value) (σ : mS) : ev 124 44 (a0 :: a1 :: a2 :: none :: o :: ls) (.int x :: st) σ = ev 124 46 (a0 :: a1 :: a2 :: none :: some (.int x) :: ls) st σ := e_istore0 k124_44 (Nat.le_add_left 5 ls.length)
theorem e124_44r (a0 a1 a2 : Option Value) (y : Nat) (o : Option Value) (x : Int32) (ls : mL) (st : List Value) (σ : mS) : ev 124 44 (a0 :: a1 :: a2 :: some (.ref y) :: o :: ls) (.int x :: st) σ = ev 124 46 (a0 :: a1 :: a2 :: some (.ref y) :: some (.int x) :: ls) st σ := e_istore0 k124_44 (Nat.le_add_left 5 ls.length)
theorem k124_46 : cod 124 46 = some (.iload 4, 2, 0, 0, 0, 0) := rfl
theorem e124_46 (a0 a1 a2 a3 : Option Value) (x : Int32) (ls : mL) (st : List Value) (σ : mS) : ev 124 46 (a0 :: a1 :: a2 :: a3 :: some (.int x) :: ls) st σ = ev 124 48 (a0 :: a1 :: a2 :: a3 :: some (.int x) :: ls) (.int x :: st) σ := e_iload0 k124_46 rfl
theorem k124_48 : cod 124 48 = some (.bipush (30), 2, 0, 0, 0, 0) := rfl
theorem e124_48 (ls : mL) (st : List Value) (σ : mS) : ev 124 48 ls st σ = ev 124 50 ls (.int 30 :: st) σ := e_bipush 30 k124_48 (by decide)
theorem k124_50 : cod 124 50 = some (.if_icmp .le (7), 3, 57, 0, 0, 0) := rfl
theorem e124_50 (x y : Int32) (ls : mL) (st : List Value) (σ : mS) : ev 124 50 ls (.int y :: .int x :: st) σ = if x ≤ y then ev 124 57 ls st σ else ev 124 53 ls st σ := e_ic_le k124_50
theorem k124_53 : cod 124 53 = some (.ldc2_w 244, 3, 2, 0, 1, 0) := rfl
theorem e124_53 (ls : mL) (st : List Value) (σ : mS) : ev 124 53 ls st σ = ev 124 56 ls (.long (-2) :: st) σ := e_ldc2 (-2) k124_53 (by decide)
theorem k124_56 : cod 124 56 = some (.lreturn, 1, 0, 0, 0, 0) := rfl
theorem e124_56 (x : Int64) (ls : mL) (σ : mS) : ev 124 56 ls [.long x] σ = some (some (.long x), σ) := e_lret k124_56 rfl
theorem k124_57 : cod 124 57 = some (.aload_n 0, 1, 0, 0, 0, 0) := rfl
theorem e124_57 (x : Nat) (ls : mL) (st : List Value) (σ : mS) : ev 124 57 (some (.ref x) :: ls) st σ = ev 124 58 (some (.ref x) :: ls) (.ref x :: st) σ := e_aload1 k124_57 rfl
theorem k124_58 : cod 124 58 = some (.getfield 36, 3, 7, 4, 0, 3) := rfl
theorem e124_58 (t : Nat) (ls : mL) (st : List Value) (σ : mS) : ev 124 58 ls (.ref t :: st) σ = gfK (σ.1 t) 7 4 (fun v => ev 124 61 ls (v :: st) σ) := e_getf k124_58
theorem k124_61 : cod 124 61 = some (.getfield 174, 3, 0, 1, 1, 3) := rfl
theorem e124_61 (t : Nat) (ls : mL) (st : List Value) (σ : mS) : ev 124 61 ls (.ref t :: st) σ = gfK (σ.1 t) 0 1 (fun v => ev 124 64 ls (v :: st) σ) := e_getf k124_61
theorem k124_64 : cod 124 64 = some (.iload_n 1, 1, 0, 0, 0, 0) := rfl
theorem e124_64 (a0 : Option Value) (x : Int32) (ls : mL) (st : List Value) (σ : mS) : ev 124 64 (a0 :: some (.int x) :: ls) st σ = ev 124 65 (a0 :: some (.int x) :: ls) (.int x :: st) σ := e_iload1 k124_64 rfl
theorem k124_65 : cod 124 65 = some (.iconst 3, 1, 0, 0, 0, 0) := rfl
theorem e124_65 (ls : mL) (st : List Value) (σ : mS) : ev 124 65 ls st σ = ev 124 66 ls (.int 3 :: st) σ := e_iconst 3 k124_65 (by decide)
theorem k124_66 : cod 124 66 = some (.invokevirtual 160, 3, 38, 2, 0, 3) := rfl
theorem e124_66 (t : Nat) (x0 : Int32) (x1 : Int32) (ls : mL) (st : List Value) (σ : mS) (hm : mCat st ≤ 8) : ev 124 66 ls (.int x1 :: .int x0 :: .ref t :: st) σ = isC (σ.1 t) 3 ((evM 38 [.ref t, .int x0, .int x1] σ).bind fun z => ev 124 69 ls (z.1.toList ++ st) z.2) := e_callVK k124_66 (by decide) rfl ⟨hm, Nat.le_of_ble_eq_true rfl⟩
theorem k124_69 : cod 124 69 = some (.istore 5, 2, 0, 0, 0, 0) := rfl
theorem e124_69i (a0 a1 a2 a3 : Option Value) (y : Int32) (o : Option Value) (x : Int32) (ls : mL) (st : List Value) (σ : mS) : ev 124 69 (a0 :: a1 :: a2 :: a3 :: some (.int y) :: o :: ls) (.int x :: st) σ = ev 124 71 (a0 :: a1 :: a2 :: a3 :: some (.int y) :: some (.int x) :: ls) st σ := e_istore0 k124_69 (Nat.le_add_left 6 ls.length)
theorem e124_69n (a0 a1 a2 a3 : Option Value) (o : Option Value) (x : Int32) (ls : mL) (st : List Value) (σ : mS) : ev 124 69 (a0 :: a1 :: a2 :: a3 :: none :: o :: ls) (.int x :: st) σ = ev 124 71 (a0 :: a1 :: a2 :: a3 :: none :: some (.int x) :: ls) st σ := e_istore0 k124_69 (Nat.le_add_left 6 ls.length)
theorem e124_69r (a0 a1 a2 a3 : Option Value) (y : Nat) (o : Option Value) (x : Int32) (ls : mL) (st : List Value) (σ : mS) : ev 124 69 (a0 :: a1 :: a2 :: a3 :: some (.ref y) :: o :: ls) (.int x :: st) σ = ev 124 71 (a0 :: a1 :: a2 :: a3 :: some (.ref y) :: some (.int x) :: ls) st σ := e_istore0 k124_69 (Nat.le_add_left 6 ls.length)
theorem k124_71 : cod 124 71 = some (.iload_n 3, 1, 0, 0, 0, 0) := rfl
theorem e124_71 (a0 a1 a2 : Option Value) (x : Int32) (ls : mL) (st : List Value) (σ : mS) : ev 124 71 (a0 :: a1 :: a2 :: some (.int x) :: ls) st σ = ev 124 72 (a0 :: a1 :: a2 :: some (.int x) :: ls) (.int x :: st) σ := e_iload1 k124_71 rfl
theorem k124_72 : cod 124 72 = some (.iconst 1, 1, 0, 0, 0, 0) := rfl
theorem e124_72 (ls : mL) (st : List Value) (σ : mS) : ev 124 72 ls st σ = ev 124 73 ls (.int 1 :: st) σ := e_iconst 1 k124_72 (by decide)
theorem k124_73 : cod 124 73 = some (.if_icmp .ne (11), 3, 84, 0, 0, 0) := rfl
theorem e124_73 (x y : Int32) (ls : mL) (st : List Value) (σ : mS) : ev 124 73 ls (.int y :: .int x :: st) σ = if x = y then ev 124 76 ls st σ else ev 124 84 ls st σ := e_ic_ne k124_73
theorem k124_76 : cod 124 76 = some (.iload 4, 2, 0, 0, 0, 0) := rfl
theorem e124_76 (a0 a1 a2 a3 : Option Value) (x : Int32) (ls : mL) (st : List Value) (σ : mS) : ev 124 76 (a0 :: a1 :: a2 :: a3 :: some (.int x) :: ls) st σ = ev 124 78 (a0 :: a1 :: a2 :: a3 :: some (.int x) :: ls) (.int x :: st) σ := e_iload0 k124_76 rfl
theorem k124_78 : cod 124 78 = some (.iload 5, 2, 0, 0, 0, 0) := rfl
theorem e124_78 (a0 a1 a2 a3 a4 : Option Value) (x : Int32) (ls : mL) (st : List Value) (σ : mS) : ev 124 78 (a0 :: a1 :: a2 :: a3 :: a4 :: some (.int x) :: ls) st σ = ev 124 80 (a0 :: a1 :: a2 :: a3 :: a4 :: some (.int x) :: ls) (.int x :: st) σ := e_iload0 k124_78 rfl
theorem k124_80 : cod 124 80 = some (.invokestatic 246, 3, 125, 2, 0, 0) := rfl
theorem e124_80 (x0 : Int32) (x1 : Int32) (ls : mL) (st : List Value) (σ : mS) (hm : mCat st ≤ 8) : ev 124 80 ls (.int x1 :: .int x0 :: st) σ = (evM 125 [.int x0, .int x1] σ).bind fun z => ev 124 83 ls (z.1.toList ++ st) z.2 := e_callS k124_80 (by decide) rfl ⟨hm, Nat.le_of_ble_eq_true rfl⟩
theorem k124_83 : cod 124 83 = some (.lreturn, 1, 0, 0, 0, 0) := rfl
theorem e124_83 (x : Int64) (ls : mL) (σ : mS) : ev 124 83 ls [.long x] σ = some (some (.long x), σ) := e_lret k124_83 rfl
theorem k124_84 : cod 124 84 = some (.iload 4, 2, 0, 0, 0, 0) := rfl
theorem e124_84 (a0 a1 a2 a3 : Option Value) (x : Int32) (ls : mL) (st : List Value) (σ : mS) : ev 124 84 (a0 :: a1 :: a2 :: a3 :: some (.int x) :: ls) st σ = ev 124 86 (a0 :: a1 :: a2 :: a3 :: some (.int x) :: ls) (.int x :: st) σ := e_iload0 k124_84 rfl
theorem k124_86 : cod 124 86 = some (.aload_n 0, 1, 0, 0, 0, 0) := rfl
theorem e124_86 (x : Nat) (ls : mL) (st : List Value) (σ : mS) : ev 124 86 (some (.ref x) :: ls) st σ = ev 124 87 (some (.ref x) :: ls) (.ref x :: st) σ := e_aload1 k124_86 rfl
theorem k124_87 : cod 124 87 = some (.getfield 36, 3, 7, 4, 0, 3) := rfl
theorem e124_87 (t : Nat) (ls : mL) (st : List Value) (σ : mS) : ev 124 87 ls (.ref t :: st) σ = gfK (σ.1 t) 7 4 (fun v => ev 124 90 ls (v :: st) σ) := e_getf k124_87
theorem k124_90 : cod 124 90 = some (.bipush (-9), 2, 0, 0, 0, 0) := rfl
theorem e124_90 (ls : mL) (st : List Value) (σ : mS) : ev 124 90 ls st σ = ev 124 92 ls (.int (-9) :: st) σ := e_bipush (-9) k124_90 (by decide)
theorem k124_92 : cod 124 92 = some (.iload_n 2, 1, 0, 0, 0, 0) := rfl
theorem e124_92 (a0 a1 : Option Value) (x : Int32) (ls : mL) (st : List Value) (σ : mS) : ev 124 92 (a0 :: a1 :: some (.int x) :: ls) st σ = ev 124 93 (a0 :: a1 :: some (.int x) :: ls) (.int x :: st) σ := e_iload1 k124_92 rfl
theorem k124_93 : cod 124 93 = some (.invokevirtual 250, 3, 18, 2, 0, 0) := rfl
theorem e124_93 (t : Nat) (x0 : Int32) (x1 : Int32) (ls : mL) (st : List Value) (σ : mS) (hm : mCat st ≤ 8) : ev 124 93 ls (.int x1 :: .int x0 :: .ref t :: st) σ = isC (σ.1 t) 0 ((evM 18 [.ref t, .int x0, .int x1] σ).bind fun z => ev 124 96 ls (z.1.toList ++ st) z.2) := e_callVK k124_93 (by decide) rfl ⟨hm, Nat.le_of_ble_eq_true rfl⟩
theorem k124_96 : cod 124 96 = some (.iload 5, 2, 0, 0, 0, 0) := rfl
theorem e124_96 (a0 a1 a2 a3 a4 : Option Value) (x : Int32) (ls : mL) (st : List Value) (σ : mS) : ev 124 96 (a0 :: a1 :: a2 :: a3 :: a4 :: some (.int x) :: ls) st σ = ev 124 98 (a0 :: a1 :: a2 :: a3 :: a4 :: some (.int x) :: ls) (.int x :: st) σ := e_iload0 k124_96 rfl
theorem k124_98 : cod 124 98 = some (.aload_n 0, 1, 0, 0, 0, 0) := rfl
theorem e124_98 (x : Nat) (ls : mL) (st : List Value) (σ : mS) : ev 124 98 (some (.ref x) :: ls) st σ = ev 124 99 (some (.ref x) :: ls) (.ref x :: st) σ := e_aload1 k124_98 rfl
theorem k124_99 : cod 124 99 = some (.getfield 36, 3, 7, 4, 0, 3) := rfl
theorem e124_99 (t : Nat) (ls : mL) (st : List Value) (σ : mS) : ev 124 99 ls (.ref t :: st) σ = gfK (σ.1 t) 7 4 (fun v => ev 124 102 ls (v :: st) σ) := e_getf k124_99
theorem k124_102 : cod 124 102 = some (.iload_n 1, 1, 0, 0, 0, 0) := rfl
theorem e124_102 (a0 : Option Value) (x : Int32) (ls : mL) (st : List Value) (σ : mS) : ev 124 102 (a0 :: some (.int x) :: ls) st σ = ev 124 103 (a0 :: some (.int x) :: ls) (.int x :: st) σ := e_iload1 k124_102 rfl
theorem k124_103 : cod 124 103 = some (.iload_n 2, 1, 0, 0, 0, 0) := rfl
theorem e124_103 (a0 a1 : Option Value) (x : Int32) (ls : mL) (st : List Value) (σ : mS) : ev 124 103 (a0 :: a1 :: some (.int x) :: ls) st σ = ev 124 104 (a0 :: a1 :: some (.int x) :: ls) (.int x :: st) σ := e_iload1 k124_103 rfl
theorem k124_104 : cod 124 104 = some (.invokevirtual 250, 3, 18, 2, 0, 0) := rfl
theorem e124_104 (t : Nat) (x0 : Int32) (x1 : Int32) (ls : mL) (st : List Value) (σ : mS) (hm : mCat st ≤ 8) : ev 124 104 ls (.int x1 :: .int x0 :: .ref t :: st) σ = isC (σ.1 t) 0 ((evM 18 [.ref t, .int x0, .int x1] σ).bind fun z => ev 124 107 ls (z.1.toList ++ st) z.2) := e_callVK k124_104 (by decide) rfl ⟨hm, Nat.le_of_ble_eq_true rfl⟩
theorem k124_107 : cod 124 107 = some (.invokestatic 253, 3, 126, 4, 0, 0) := rfl
theorem e124_107 (x0 : Int32) (x1 : Int32) (x2 : Int32) (x3 : Int32) (ls : mL) (st : List Value) (σ : mS) (hm : mCat st ≤ 8) : ev 124 107 ls (.int x3 :: .int x2 :: .int x1 :: .int x0 :: st) σ = (evM 126 [.int x0, .int x1, .int x2, .int x3] σ).bind fun z => ev 124 110 ls (z.1.toList ++ st) z.2 := e_callS k124_107 (by decide) rfl ⟨hm, Nat.le_of_ble_eq_true rfl⟩
theorem k124_110 : cod 124 110 = some (.lreturn, 1, 0, 0, 0, 0) := rfl
theorem e124_110 (x : Int64) (ls : mL) (σ : mS) : ev 124 110 ls [.long x] σ = some (some (.long x), σ) := e_lret k124_110 rfl
theorem m124 (t : Nat) (x0 : Int32) (x1 : Int32) (x2 : Int32) (σ : mS) : evM 124 [.ref t, .int x0, .int x1, .int x2] σ = ev 124 0 [some (.ref t), some (.int x0), some (.int x1), some (.int x2), none, none] [] σ := rfl
theorem k125_0 : cod 125 0 = some (.iload_n 1, 1, 0, 0, 0, 0) := rfl
theorem e125_0 (a0 : Option Value) (x : Int32) (ls : mL) (st : List Value) (σ : mS) : ev 125 0 (a0 :: some (.int x) :: ls) st σ = ev 125 1 (a0 :: some (.int x) :: ls) (.int x :: st) σ := e_iload1 k125_0 rfl
theorem k125_1 : cod 125 1 = some (.ifCond .lt (14), 3, 15, 0, 0, 0) := rfl
theorem e125_1 (x : Int32) (ls : mL) (st : List Value) (σ : mS) : ev 125 1 ls (.int x :: st) σ = if x < 0 then ev 125 15 ls st σ else ev 125 4 ls st σ := e_if_lt k125_1
theorem k125_4 : cod 125 4 = some (.iload_n 1, 1, 0, 0, 0, 0) := rfl
theorem e125_4 (a0 : Option Value) (x : Int32) (ls : mL) (st : List Value) (σ : mS) : ev 125 4 (a0 :: some (.int x) :: ls) st σ = ev 125 5 (a0 :: some (.int x) :: ls) (.int x :: st) σ := e_iload1 k125_4 rfl
theorem k125_5 : cod 125 5 = some (.iload_n 0, 1, 0, 0, 0, 0) := rfl
theorem e125_5 (x : Int32) (ls : mL) (st : List Value) (σ : mS) : ev 125 5 (some (.int x) :: ls) st σ = ev 125 6 (some (.int x) :: ls) (.int x :: st) σ := e_iload1 k125_5 rfl
theorem k125_6 : cod 125 6 = some (.if_icmp .gt (9), 3, 15, 0, 0, 0) := rfl
theorem e125_6 (x y : Int32) (ls : mL) (st : List Value) (σ : mS) : ev 125 6 ls (.int y :: .int x :: st) σ = if y < x then ev 125 15 ls st σ else ev 125 9 ls st σ := e_ic_gt k125_6
theorem k125_9 : cod 125 9 = some (.iload_n 0, 1, 0, 0, 0, 0) := rfl
theorem e125_9 (x : Int32) (ls : mL) (st : List Value) (σ : mS) : ev 125 9 (some (.int x) :: ls) st σ = ev 125 10 (some (.int x) :: ls) (.int x :: st) σ := e_iload1 k125_9 rfl
theorem k125_10 : cod 125 10 = some (.bipush (30), 2, 0, 0, 0, 0) := rfl
theorem e125_10 (ls : mL) (st : List Value) (σ : mS) : ev 125 10 ls st σ = ev 125 12 ls (.int 30 :: st) σ := e_bipush 30 k125_10 (by decide)
theorem k125_12 : cod 125 12 = some (.if_icmp .le (5), 3, 17, 0, 0, 0) := rfl
theorem e125_12 (x y : Int32) (ls : mL) (st : List Value) (σ : mS) : ev 125 12 ls (.int y :: .int x :: st) σ = if x ≤ y then ev 125 17 ls st σ else ev 125 15 ls st σ := e_ic_le k125_12
theorem k125_15 : cod 125 15 = some (.lconst 0, 1, 0, 0, 0, 0) := rfl
theorem e125_15 (ls : mL) (st : List Value) (σ : mS) : ev 125 15 ls st σ = ev 125 16 ls (.long 0 :: st) σ := e_lconst 0 k125_15 (by decide)
theorem k125_16 : cod 125 16 = some (.lreturn, 1, 0, 0, 0, 0) := rfl
theorem e125_16 (x : Int64) (ls : mL) (σ : mS) : ev 125 16 ls [.long x] σ = some (some (.long x), σ) := e_lret k125_16 rfl
theorem k125_17 : cod 125 17 = some (.lconst 1, 1, 0, 0, 0, 0) := rfl
theorem e125_17 (ls : mL) (st : List Value) (σ : mS) : ev 125 17 ls st σ = ev 125 18 ls (.long 1 :: st) σ := e_lconst 1 k125_17 (by decide)
theorem k125_18 : cod 125 18 = some (.lstore_n 2, 1, 0, 0, 0, 0) := rfl
theorem e125_18i (a0 : Option Value) (y : Int32) (o o2 : Option Value) (x : Int64) (ls : mL) (st : List Value) (σ : mS) : ev 125 18 (a0 :: some (.int y) :: o :: o2 :: ls) (.long x :: st) σ = ev 125 19 (a0 :: some (.int y) :: some (.long x) :: none :: ls) st σ := e_lstore1 k125_18 (Nat.le_add_left 4 ls.length)
theorem e125_18n (a0 : Option Value) (o o2 : Option Value) (x : Int64) (ls : mL) (st : List Value) (σ : mS) : ev 125 18 (a0 :: none :: o :: o2 :: ls) (.long x :: st) σ = ev 125 19 (a0 :: none :: some (.long x) :: none :: ls) st σ := e_lstore1 k125_18 (Nat.le_add_left 4 ls.length)
theorem e125_18r (a0 : Option Value) (y : Nat) (o o2 : Option Value) (x : Int64) (ls : mL) (st : List Value) (σ : mS) : ev 125 18 (a0 :: some (.ref y) :: o :: o2 :: ls) (.long x :: st) σ = ev 125 19 (a0 :: some (.ref y) :: some (.long x) :: none :: ls) st σ := e_lstore1 k125_18 (Nat.le_add_left 4 ls.length)
theorem k125_19 : cod 125 19 = some (.iconst 1, 1, 0, 0, 0, 0) := rfl
theorem e125_19 (ls : mL) (st : List Value) (σ : mS) : ev 125 19 ls st σ = ev 125 20 ls (.int 1 :: st) σ := e_iconst 1 k125_19 (by decide)
theorem k125_20 : cod 125 20 = some (.istore 4, 2, 0, 0, 0, 0) := rfl
theorem e125_20i (a0 a1 a2 : Option Value) (y : Int32) (o : Option Value) (x : Int32) (ls : mL) (st : List Value) (σ : mS) : ev 125 20 (a0 :: a1 :: a2 :: some (.int y) :: o :: ls) (.int x :: st) σ = ev 125 22 (a0 :: a1 :: a2 :: some (.int y) :: some (.int x) :: ls) st σ := e_istore0 k125_20 (Nat.le_add_left 5 ls.length)
theorem e125_20n (a0 a1 a2 : Option Value) (o : Option Value) (x : Int32) (ls : mL) (st : List Value) (σ : mS) : ev 125 20 (a0 :: a1 :: a2 :: none :: o :: ls) (.int x :: st) σ = ev 125 22 (a0 :: a1 :: a2 :: none :: some (.int x) :: ls) st σ := e_istore0 k125_20 (Nat.le_add_left 5 ls.length)
theorem e125_20r (a0 a1 a2 : Option Value) (y : Nat) (o : Option Value) (x : Int32) (ls : mL) (st : List Value) (σ : mS) : ev 125 20 (a0 :: a1 :: a2 :: some (.ref y) :: o :: ls) (.int x :: st) σ = ev 125 22 (a0 :: a1 :: a2 :: some (.ref y) :: some (.int x) :: ls) st σ := e_istore0 k125_20 (Nat.le_add_left 5 ls.length)
theorem k125_22 : cod 125 22 = some (.iload 4, 2, 0, 0, 0, 0) := rfl
theorem e125_22 (a0 a1 a2 a3 : Option Value) (x : Int32) (ls : mL) (st : List Value) (σ : mS) : ev 125 22 (a0 :: a1 :: a2 :: a3 :: some (.int x) :: ls) st σ = ev 125 24 (a0 :: a1 :: a2 :: a3 :: some (.int x) :: ls) (.int x :: st) σ := e_iload0 k125_22 rfl
theorem k125_24 : cod 125 24 = some (.iload_n 1, 1, 0, 0, 0, 0) := rfl
theorem e125_24 (a0 : Option Value) (x : Int32) (ls : mL) (st : List Value) (σ : mS) : ev 125 24 (a0 :: some (.int x) :: ls) st σ = ev 125 25 (a0 :: some (.int x) :: ls) (.int x :: st) σ := e_iload1 k125_24 rfl
theorem k125_25 : cod 125 25 = some (.if_icmp .gt (23), 3, 48, 0, 0, 0) := rfl
theorem e125_25 (x y : Int32) (ls : mL) (st : List Value) (σ : mS) : ev 125 25 ls (.int y :: .int x :: st) σ = if y < x then ev 125 48 ls st σ else ev 125 28 ls st σ := e_ic_gt k125_25
theorem k125_28 : cod 125 28 = some (.lload_n 2, 1, 0, 0, 0, 0) := rfl
theorem e125_28 (a0 a1 : Option Value) (x : Int64) (ls : mL) (st : List Value) (σ : mS) : ev 125 28 (a0 :: a1 :: some (.long x) :: ls) st σ = ev 125 29 (a0 :: a1 :: some (.long x) :: ls) (.long x :: st) σ := e_lload1 k125_28 rfl
theorem k125_29 : cod 125 29 = some (.iload_n 0, 1, 0, 0, 0, 0) := rfl
theorem e125_29 (x : Int32) (ls : mL) (st : List Value) (σ : mS) : ev 125 29 (some (.int x) :: ls) st σ = ev 125 30 (some (.int x) :: ls) (.int x :: st) σ := e_iload1 k125_29 rfl
theorem k125_30 : cod 125 30 = some (.iload_n 1, 1, 0, 0, 0, 0) := rfl
theorem e125_30 (a0 : Option Value) (x : Int32) (ls : mL) (st : List Value) (σ : mS) : ev 125 30 (a0 :: some (.int x) :: ls) st σ = ev 125 31 (a0 :: some (.int x) :: ls) (.int x :: st) σ := e_iload1 k125_30 rfl
theorem k125_31 : cod 125 31 = some (.isub, 1, 0, 0, 0, 0) := rfl
theorem e125_31 (x y : Int32) (ls : mL) (st : List Value) (σ : mS) : ev 125 31 ls (.int y :: .int x :: st) σ = ev 125 32 ls (.int (x - y) :: st) σ := e_isub k125_31
theorem k125_32 : cod 125 32 = some (.iload 4, 2, 0, 0, 0, 0) := rfl
theorem e125_32 (a0 a1 a2 a3 : Option Value) (x : Int32) (ls : mL) (st : List Value) (σ : mS) : ev 125 32 (a0 :: a1 :: a2 :: a3 :: some (.int x) :: ls) st σ = ev 125 34 (a0 :: a1 :: a2 :: a3 :: some (.int x) :: ls) (.int x :: st) σ := e_iload0 k125_32 rfl
theorem k125_34 : cod 125 34 = some (.iadd, 1, 0, 0, 0, 0) := rfl
theorem e125_34 (x y : Int32) (ls : mL) (st : List Value) (σ : mS) : ev 125 34 ls (.int y :: .int x :: st) σ = ev 125 35 ls (.int (x + y) :: st) σ := e_iadd k125_34
theorem k125_35 : cod 125 35 = some (.i2l, 1, 0, 0, 0, 0) := rfl
theorem e125_35 (x : Int32) (ls : mL) (st : List Value) (σ : mS) : ev 125 35 ls (.int x :: st) σ = ev 125 36 ls (.long x.toInt64 :: st) σ := e_i2l k125_35
theorem k125_36 : cod 125 36 = some (.lmul, 1, 0, 0, 0, 0) := rfl
theorem e125_36 (x y : Int64) (ls : mL) (st : List Value) (σ : mS) : ev 125 36 ls (.long y :: .long x :: st) σ = ev 125 37 ls (.long (x * y) :: st) σ := e_lmul k125_36
theorem k125_37 : cod 125 37 = some (.iload 4, 2, 0, 0, 0, 0) := rfl
theorem e125_37 (a0 a1 a2 a3 : Option Value) (x : Int32) (ls : mL) (st : List Value) (σ : mS) : ev 125 37 (a0 :: a1 :: a2 :: a3 :: some (.int x) :: ls) st σ = ev 125 39 (a0 :: a1 :: a2 :: a3 :: some (.int x) :: ls) (.int x :: st) σ := e_iload0 k125_37 rfl
theorem k125_39 : cod 125 39 = some (.i2l, 1, 0, 0, 0, 0) := rfl
theorem e125_39 (x : Int32) (ls : mL) (st : List Value) (σ : mS) : ev 125 39 ls (.int x :: st) σ = ev 125 40 ls (.long x.toInt64 :: st) σ := e_i2l k125_39
theorem k125_40 : cod 125 40 = some (.ldiv, 1, 0, 0, 0, 0) := rfl
theorem e125_40 (x y : Int64) (ls : mL) (st : List Value) (σ : mS) : ev 125 40 ls (.long y :: .long x :: st) σ = if y = 0 then none else ev 125 41 ls (.long (x / y) :: st) σ := e_ldiv k125_40
theorem k125_41 : cod 125 41 = some (.lstore_n 2, 1, 0, 0, 0, 0) := rfl
theorem e125_41i (a0 : Option Value) (y : Int32) (o o2 : Option Value) (x : Int64) (ls : mL) (st : List Value) (σ : mS) : ev 125 41 (a0 :: some (.int y) :: o :: o2 :: ls) (.long x :: st) σ = ev 125 42 (a0 :: some (.int y) :: some (.long x) :: none :: ls) st σ := e_lstore1 k125_41 (Nat.le_add_left 4 ls.length)
theorem e125_41n (a0 : Option Value) (o o2 : Option Value) (x : Int64) (ls : mL) (st : List Value) (σ : mS) : ev 125 41 (a0 :: none :: o :: o2 :: ls) (.long x :: st) σ = ev 125 42 (a0 :: none :: some (.long x) :: none :: ls) st σ := e_lstore1 k125_41 (Nat.le_add_left 4 ls.length)
theorem e125_41r (a0 : Option Value) (y : Nat) (o o2 : Option Value) (x : Int64) (ls : mL) (st : List Value) (σ : mS) : ev 125 41 (a0 :: some (.ref y) :: o :: o2 :: ls) (.long x :: st) σ = ev 125 42 (a0 :: some (.ref y) :: some (.long x) :: none :: ls) st σ := e_lstore1 k125_41 (Nat.le_add_left 4 ls.length)
theorem k125_42 : cod 125 42 = some (.iinc 4 (1), 3, 0, 0, 0, 0) := rfl
theorem e125_42i (a0 a1 a2 : Option Value) (y : Int32) (x : Int32) (ls : mL) (st : List Value) (σ : mS) : ev 125 42 (a0 :: a1 :: a2 :: some (.int y) :: some (.int x) :: ls) st σ = ev 125 45 (a0 :: a1 :: a2 :: some (.int y) :: some (.int (x + 1)) :: ls) st σ := e_iinc 1 k125_42 (by decide) rfl
theorem e125_42n (a0 a1 a2 : Option Value) (x : Int32) (ls : mL) (st : List Value) (σ : mS) : ev 125 42 (a0 :: a1 :: a2 :: none :: some (.int x) :: ls) st σ = ev 125 45 (a0 :: a1 :: a2 :: none :: some (.int (x + 1)) :: ls) st σ := e_iinc 1 k125_42 (by decide) rfl
theorem e125_42r (a0 a1 a2 : Option Value) (y : Nat) (x : Int32) (ls : mL) (st : List Value) (σ : mS) : ev 125 42 (a0 :: a1 :: a2 :: some (.ref y) :: some (.int x) :: ls) st σ = ev 125 45 (a0 :: a1 :: a2 :: some (.ref y) :: some (.int (x + 1)) :: ls) st σ := e_iinc 1 k125_42 (by decide) rfl
theorem k125_45 : cod 125 45 = some (.goto (-23), 3, 22, 0, 0, 0) := rfl
theorem e125_45 (ls : mL) (st : List Value) (σ : mS) : ev 125 45 ls st σ = ev 125 22 ls st σ := e_goto k125_45
theorem k125_48 : cod 125 48 = some (.lload_n 2, 1, 0, 0, 0, 0) := rfl
theorem e125_48 (a0 a1 : Option Value) (x : Int64) (ls : mL) (st : List Value) (σ : mS) : ev 125 48 (a0 :: a1 :: some (.long x) :: ls) st σ = ev 125 49 (a0 :: a1 :: some (.long x) :: ls) (.long x :: st) σ := e_lload1 k125_48 rfl
theorem k125_49 : cod 125 49 = some (.lreturn, 1, 0, 0, 0, 0) := rfl
theorem e125_49 (x : Int64) (ls : mL) (σ : mS) : ev 125 49 ls [.long x] σ = some (some (.long x), σ) := e_lret k125_49 rfl
theorem m125 (x0 : Int32) (x1 : Int32) (σ : mS) : evM 125 [.int x0, .int x1] σ = ev 125 0 [some (.int x0), some (.int x1), none, none, none] [] σ := rfl
theorem k126_0 : cod 126 0 = some (.lconst 0, 1, 0, 0, 0, 0) := rfl
theorem e126_0 (ls : mL) (st : List Value) (σ : mS) : ev 126 0 ls st σ = ev 126 1 ls (.long 0 :: st) σ := e_lconst 0 k126_0 (by decide)
theorem k126_1 : cod 126 1 = some (.lstore 4, 2, 0, 0, 0, 0) := rfl
theorem e126_1i (a0 a1 a2 : Option Value) (y : Int32) (o o2 : Option Value) (x : Int64) (ls : mL) (st : List Value) (σ : mS) : ev 126 1 (a0 :: a1 :: a2 :: some (.int y) :: o :: o2 :: ls) (.long x :: st) σ = ev 126 3 (a0 :: a1 :: a2 :: some (.int y) :: some (.long x) :: none :: ls) st σ := e_lstore0 k126_1 (Nat.le_add_left 6 ls.length)
theorem e126_1n (a0 a1 a2 : Option Value) (o o2 : Option Value) (x : Int64) (ls : mL) (st : List Value) (σ : mS) : ev 126 1 (a0 :: a1 :: a2 :: none :: o :: o2 :: ls) (.long x :: st) σ = ev 126 3 (a0 :: a1 :: a2 :: none :: some (.long x) :: none :: ls) st σ := e_lstore0 k126_1 (Nat.le_add_left 6 ls.length)
theorem e126_1r (a0 a1 a2 : Option Value) (y : Nat) (o o2 : Option Value) (x : Int64) (ls : mL) (st : List Value) (σ : mS) : ev 126 1 (a0 :: a1 :: a2 :: some (.ref y) :: o :: o2 :: ls) (.long x :: st) σ = ev 126 3 (a0 :: a1 :: a2 :: some (.ref y) :: some (.long x) :: none :: ls) st σ := e_lstore0 k126_1 (Nat.le_add_left 6 ls.length)
theorem k126_3 : cod 126 3 = some (.iload_n 3, 1, 0, 0, 0, 0) := rfl
theorem e126_3 (a0 a1 a2 : Option Value) (x : Int32) (ls : mL) (st : List Value) (σ : mS) : ev 126 3 (a0 :: a1 :: a2 :: some (.int x) :: ls) st σ = ev 126 4 (a0 :: a1 :: a2 :: some (.int x) :: ls) (.int x :: st) σ := e_iload1 k126_3 rfl
theorem k126_4 : cod 126 4 = some (.istore 6, 2, 0, 0, 0, 0) := rfl
theorem e126_4i (a0 a1 a2 a3 a4 : Option Value) (y : Int32) (o : Option Value) (x : Int32) (ls : mL) (st : List Value) (σ : mS) : ev 126 4 (a0 :: a1 :: a2 :: a3 :: a4 :: some (.int y) :: o :: ls) (.int x :: st) σ = ev 126 6 (a0 :: a1 :: a2 :: a3 :: a4 :: some (.int y) :: some (.int x) :: ls) st σ := e_istore0 k126_4 (Nat.le_add_left 7 ls.length)
theorem e126_4n (a0 a1 a2 a3 a4 : Option Value) (o : Option Value) (x : Int32) (ls : mL) (st : List Value) (σ : mS) : ev 126 4 (a0 :: a1 :: a2 :: a3 :: a4 :: none :: o :: ls) (.int x :: st) σ = ev 126 6 (a0 :: a1 :: a2 :: a3 :: a4 :: none :: some (.int x) :: ls) st σ := e_istore0 k126_4 (Nat.le_add_left 7 ls.length)
theorem e126_4r (a0 a1 a2 a3 a4 : Option Value) (y : Nat) (o : Option Value) (x : Int32) (ls : mL) (st : List Value) (σ : mS) : ev 126 4 (a0 :: a1 :: a2 :: a3 :: a4 :: some (.ref y) :: o :: ls) (.int x :: st) σ = ev 126 6 (a0 :: a1 :: a2 :: a3 :: a4 :: some (.ref y) :: some (.int x) :: ls) st σ := e_istore0 k126_4 (Nat.le_add_left 7 ls.length)
theorem k126_6 : cod 126 6 = some (.iload 6, 2, 0, 0, 0, 0) := rfl
theorem e126_6 (a0 a1 a2 a3 a4 a5 : Option Value) (x : Int32) (ls : mL) (st : List Value) (σ : mS) : ev 126 6 (a0 :: a1 :: a2 :: a3 :: a4 :: a5 :: some (.int x) :: ls) st σ = ev 126 8 (a0 :: a1 :: a2 :: a3 :: a4 :: a5 :: some (.int x) :: ls) (.int x :: st) σ := e_iload0 k126_6 rfl
theorem k126_8 : cod 126 8 = some (.iload_n 2, 1, 0, 0, 0, 0) := rfl
theorem e126_8 (a0 a1 : Option Value) (x : Int32) (ls : mL) (st : List Value) (σ : mS) : ev 126 8 (a0 :: a1 :: some (.int x) :: ls) st σ = ev 126 9 (a0 :: a1 :: some (.int x) :: ls) (.int x :: st) σ := e_iload1 k126_8 rfl
theorem k126_9 : cod 126 9 = some (.if_icmp .gt (38), 3, 47, 0, 0, 0) := rfl
theorem e126_9 (x y : Int32) (ls : mL) (st : List Value) (σ : mS) : ev 126 9 ls (.int y :: .int x :: st) σ = if y < x then ev 126 47 ls st σ else ev 126 12 ls st σ := e_ic_gt k126_9
theorem k126_12 : cod 126 12 = some (.iload 6, 2, 0, 0, 0, 0) := rfl
theorem e126_12 (a0 a1 a2 a3 a4 a5 : Option Value) (x : Int32) (ls : mL) (st : List Value) (σ : mS) : ev 126 12 (a0 :: a1 :: a2 :: a3 :: a4 :: a5 :: some (.int x) :: ls) st σ = ev 126 14 (a0 :: a1 :: a2 :: a3 :: a4 :: a5 :: some (.int x) :: ls) (.int x :: st) σ := e_iload0 k126_12 rfl
theorem k126_14 : cod 126 14 = some (.bipush (30), 2, 0, 0, 0, 0) := rfl
theorem e126_14 (ls : mL) (st : List Value) (σ : mS) : ev 126 14 ls st σ = ev 126 16 ls (.int 30 :: st) σ := e_bipush 30 k126_14 (by decide)
theorem k126_16 : cod 126 16 = some (.if_icmp .gt (31), 3, 47, 0, 0, 0) := rfl
theorem e126_16 (x y : Int32) (ls : mL) (st : List Value) (σ : mS) : ev 126 16 ls (.int y :: .int x :: st) σ = if y < x then ev 126 47 ls st σ else ev 126 19 ls st σ := e_ic_gt k126_16
theorem k126_19 : cod 126 19 = some (.lload 4, 2, 0, 0, 0, 0) := rfl
theorem e126_19 (a0 a1 a2 a3 : Option Value) (x : Int64) (ls : mL) (st : List Value) (σ : mS) : ev 126 19 (a0 :: a1 :: a2 :: a3 :: some (.long x) :: ls) st σ = ev 126 21 (a0 :: a1 :: a2 :: a3 :: some (.long x) :: ls) (.long x :: st) σ := e_lload0 k126_19 rfl
theorem k126_21 : cod 126 21 = some (.iload_n 1, 1, 0, 0, 0, 0) := rfl
theorem e126_21 (a0 : Option Value) (x : Int32) (ls : mL) (st : List Value) (σ : mS) : ev 126 21 (a0 :: some (.int x) :: ls) st σ = ev 126 22 (a0 :: some (.int x) :: ls) (.int x :: st) σ := e_iload1 k126_21 rfl
theorem k126_22 : cod 126 22 = some (.iload 6, 2, 0, 0, 0, 0) := rfl
theorem e126_22 (a0 a1 a2 a3 a4 a5 : Option Value) (x : Int32) (ls : mL) (st : List Value) (σ : mS) : ev 126 22 (a0 :: a1 :: a2 :: a3 :: a4 :: a5 :: some (.int x) :: ls) st σ = ev 126 24 (a0 :: a1 :: a2 :: a3 :: a4 :: a5 :: some (.int x) :: ls) (.int x :: st) σ := e_iload0 k126_22 rfl
theorem k126_24 : cod 126 24 = some (.invokestatic 246, 3, 125, 2, 0, 0) := rfl
theorem e126_24 (x0 : Int32) (x1 : Int32) (ls : mL) (st : List Value) (σ : mS) (hm : mCat st ≤ 8) : ev 126 24 ls (.int x1 :: .int x0 :: st) σ = (evM 125 [.int x0, .int x1] σ).bind fun z => ev 126 27 ls (z.1.toList ++ st) z.2 := e_callS k126_24 (by decide) rfl ⟨hm, Nat.le_of_ble_eq_true rfl⟩
theorem k126_27 : cod 126 27 = some (.iload_n 0, 1, 0, 0, 0, 0) := rfl
theorem e126_27 (x : Int32) (ls : mL) (st : List Value) (σ : mS) : ev 126 27 (some (.int x) :: ls) st σ = ev 126 28 (some (.int x) :: ls) (.int x :: st) σ := e_iload1 k126_27 rfl
theorem k126_28 : cod 126 28 = some (.iload_n 1, 1, 0, 0, 0, 0) := rfl
theorem e126_28 (a0 : Option Value) (x : Int32) (ls : mL) (st : List Value) (σ : mS) : ev 126 28 (a0 :: some (.int x) :: ls) st σ = ev 126 29 (a0 :: some (.int x) :: ls) (.int x :: st) σ := e_iload1 k126_28 rfl
theorem k126_29 : cod 126 29 = some (.isub, 1, 0, 0, 0, 0) := rfl
theorem e126_29 (x y : Int32) (ls : mL) (st : List Value) (σ : mS) : ev 126 29 ls (.int y :: .int x :: st) σ = ev 126 30 ls (.int (x - y) :: st) σ := e_isub k126_29
theorem k126_30 : cod 126 30 = some (.iload_n 2, 1, 0, 0, 0, 0) := rfl
theorem e126_30 (a0 a1 : Option Value) (x : Int32) (ls : mL) (st : List Value) (σ : mS) : ev 126 30 (a0 :: a1 :: some (.int x) :: ls) st σ = ev 126 31 (a0 :: a1 :: some (.int x) :: ls) (.int x :: st) σ := e_iload1 k126_30 rfl
theorem k126_31 : cod 126 31 = some (.iload 6, 2, 0, 0, 0, 0) := rfl
theorem e126_31 (a0 a1 a2 a3 a4 a5 : Option Value) (x : Int32) (ls : mL) (st : List Value) (σ : mS) : ev 126 31 (a0 :: a1 :: a2 :: a3 :: a4 :: a5 :: some (.int x) :: ls) st σ = ev 126 33 (a0 :: a1 :: a2 :: a3 :: a4 :: a5 :: some (.int x) :: ls) (.int x :: st) σ := e_iload0 k126_31 rfl
theorem k126_33 : cod 126 33 = some (.isub, 1, 0, 0, 0, 0) := rfl
theorem e126_33 (x y : Int32) (ls : mL) (st : List Value) (σ : mS) : ev 126 33 ls (.int y :: .int x :: st) σ = ev 126 34 ls (.int (x - y) :: st) σ := e_isub k126_33
theorem k126_34 : cod 126 34 = some (.invokestatic 246, 3, 125, 2, 0, 0) := rfl
theorem e126_34 (x0 : Int32) (x1 : Int32) (ls : mL) (st : List Value) (σ : mS) (hm : mCat st ≤ 8) : ev 126 34 ls (.int x1 :: .int x0 :: st) σ = (evM 125 [.int x0, .int x1] σ).bind fun z => ev 126 37 ls (z.1.toList ++ st) z.2 := e_callS k126_34 (by decide) rfl ⟨hm, Nat.le_of_ble_eq_true rfl⟩
theorem k126_37 : cod 126 37 = some (.lmul, 1, 0, 0, 0, 0) := rfl
theorem e126_37 (x y : Int64) (ls : mL) (st : List Value) (σ : mS) : ev 126 37 ls (.long y :: .long x :: st) σ = ev 126 38 ls (.long (x * y) :: st) σ := e_lmul k126_37
theorem k126_38 : cod 126 38 = some (.ladd, 1, 0, 0, 0, 0) := rfl
theorem e126_38 (x y : Int64) (ls : mL) (st : List Value) (σ : mS) : ev 126 38 ls (.long y :: .long x :: st) σ = ev 126 39 ls (.long (x + y) :: st) σ := e_ladd k126_38
theorem k126_39 : cod 126 39 = some (.lstore 4, 2, 0, 0, 0, 0) := rfl
theorem e126_39i (a0 a1 a2 : Option Value) (y : Int32) (o o2 : Option Value) (x : Int64) (ls : mL) (st : List Value) (σ : mS) : ev 126 39 (a0 :: a1 :: a2 :: some (.int y) :: o :: o2 :: ls) (.long x :: st) σ = ev 126 41 (a0 :: a1 :: a2 :: some (.int y) :: some (.long x) :: none :: ls) st σ := e_lstore0 k126_39 (Nat.le_add_left 6 ls.length)
theorem e126_39n (a0 a1 a2 : Option Value) (o o2 : Option Value) (x : Int64) (ls : mL) (st : List Value) (σ : mS) : ev 126 39 (a0 :: a1 :: a2 :: none :: o :: o2 :: ls) (.long x :: st) σ = ev 126 41 (a0 :: a1 :: a2 :: none :: some (.long x) :: none :: ls) st σ := e_lstore0 k126_39 (Nat.le_add_left 6 ls.length)
theorem e126_39r (a0 a1 a2 : Option Value) (y : Nat) (o o2 : Option Value) (x : Int64) (ls : mL) (st : List Value) (σ : mS) : ev 126 39 (a0 :: a1 :: a2 :: some (.ref y) :: o :: o2 :: ls) (.long x :: st) σ = ev 126 41 (a0 :: a1 :: a2 :: some (.ref y) :: some (.long x) :: none :: ls) st σ := e_lstore0 k126_39 (Nat.le_add_left 6 ls.length)
theorem k126_41 : cod 126 41 = some (.iinc 6 (1), 3, 0, 0, 0, 0) := rfl
theorem e126_41i (a0 a1 a2 a3 a4 : Option Value) (y : Int32) (x : Int32) (ls : mL) (st : List Value) (σ : mS) : ev 126 41 (a0 :: a1 :: a2 :: a3 :: a4 :: some (.int y) :: some (.int x) :: ls) st σ = ev 126 44 (a0 :: a1 :: a2 :: a3 :: a4 :: some (.int y) :: some (.int (x + 1)) :: ls) st σ := e_iinc 1 k126_41 (by decide) rfl
theorem e126_41n (a0 a1 a2 a3 a4 : Option Value) (x : Int32) (ls : mL) (st : List Value) (σ : mS) : ev 126 41 (a0 :: a1 :: a2 :: a3 :: a4 :: none :: some (.int x) :: ls) st σ = ev 126 44 (a0 :: a1 :: a2 :: a3 :: a4 :: none :: some (.int (x + 1)) :: ls) st σ := e_iinc 1 k126_41 (by decide) rfl
theorem e126_41r (a0 a1 a2 a3 a4 : Option Value) (y : Nat) (x : Int32) (ls : mL) (st : List Value) (σ : mS) : ev 126 41 (a0 :: a1 :: a2 :: a3 :: a4 :: some (.ref y) :: some (.int x) :: ls) st σ = ev 126 44 (a0 :: a1 :: a2 :: a3 :: a4 :: some (.ref y) :: some (.int (x + 1)) :: ls) st σ := e_iinc 1 k126_41 (by decide) rfl
theorem k126_44 : cod 126 44 = some (.goto (-38), 3, 6, 0, 0, 0) := rfl
theorem e126_44 (ls : mL) (st : List Value) (σ : mS) : ev 126 44 ls st σ = ev 126 6 ls st σ := e_goto k126_44
theorem k126_47 : cod 126 47 = some (.lload 4, 2, 0, 0, 0, 0) := rfl
theorem e126_47 (a0 a1 a2 a3 : Option Value) (x : Int64) (ls : mL) (st : List Value) (σ : mS) : ev 126 47 (a0 :: a1 :: a2 :: a3 :: some (.long x) :: ls) st σ = ev 126 49 (a0 :: a1 :: a2 :: a3 :: some (.long x) :: ls) (.long x :: st) σ := e_lload0 k126_47 rfl
theorem k126_49 : cod 126 49 = some (.lreturn, 1, 0, 0, 0, 0) := rfl
theorem e126_49 (x : Int64) (ls : mL) (σ : mS) : ev 126 49 ls [.long x] σ = some (some (.long x), σ) := e_lret k126_49 rfl
theorem m126 (x0 : Int32) (x1 : Int32) (x2 : Int32) (x3 : Int32) (σ : mS) : evM 126 [.int x0, .int x1, .int x2, .int x3] σ = ev 126 0 [some (.int x0), some (.int x1), some (.int x2), some (.int x3), none, none, none] [] σ := rfl
theorem k127_0 : cod 127 0 = some (.aload_n 0, 1, 0, 0, 0, 0) := rfl
theorem e127_0 (x : Nat) (ls : mL) (st : List Value) (σ : mS) : ev 127 0 (some (.ref x) :: ls) st σ = ev 127 1 (some (.ref x) :: ls) (.ref x :: st) σ := e_aload1 k127_0 rfl
theorem k127_1 : cod 127 1 = some (.getfield 36, 3, 7, 4, 0, 3) := rfl
theorem e127_1 (t : Nat) (ls : mL) (st : List Value) (σ : mS) : ev 127 1 ls (.ref t :: st) σ = gfK (σ.1 t) 7 4 (fun v => ev 127 4 ls (v :: st) σ) := e_getf k127_1
theorem k127_4 : cod 127 4 = some (.getfield 151, 3, 0, 0, 1, 3) := rfl
theorem e127_4 (t : Nat) (ls : mL) (st : List Value) (σ : mS) : ev 127 4 ls (.ref t :: st) σ = gfK (σ.1 t) 0 0 (fun v => ev 127 7 ls (v :: st) σ) := e_getf k127_4
theorem k127_7 : cod 127 7 = some (.iload_n 1, 1, 0, 0, 0, 0) := rfl
theorem e127_7 (a0 : Option Value) (x : Int32) (ls : mL) (st : List Value) (σ : mS) : ev 127 7 (a0 :: some (.int x) :: ls) st σ = ev 127 8 (a0 :: some (.int x) :: ls) (.int x :: st) σ := e_iload1 k127_7 rfl
theorem k127_8 : cod 127 8 = some (.invokevirtual 155, 3, 37, 1, 0, 3) := rfl
theorem e127_8 (t : Nat) (x0 : Int32) (ls : mL) (st : List Value) (σ : mS) (hm : mCat st ≤ 8) : ev 127 8 ls (.int x0 :: .ref t :: st) σ = isC (σ.1 t) 3 ((evM 37 [.ref t, .int x0] σ).bind fun z => ev 127 11 ls (z.1.toList ++ st) z.2) := e_callVK k127_8 (by decide) rfl ⟨hm, Nat.le_of_ble_eq_true rfl⟩
theorem k127_11 : cod 127 11 = some (.ifCond .eq (23), 3, 34, 0, 0, 0) := rfl
theorem e127_11 (x : Int32) (ls : mL) (st : List Value) (σ : mS) : ev 127 11 ls (.int x :: st) σ = if x = 0 then ev 127 34 ls st σ else ev 127 14 ls st σ := e_if_eq k127_11
theorem k127_14 : cod 127 14 = some (.iload_n 1, 1, 0, 0, 0, 0) := rfl
theorem e127_14 (a0 : Option Value) (x : Int32) (ls : mL) (st : List Value) (σ : mS) : ev 127 14 (a0 :: some (.int x) :: ls) st σ = ev 127 15 (a0 :: some (.int x) :: ls) (.int x :: st) σ := e_iload1 k127_14 rfl
theorem k127_15 : cod 127 15 = some (.iconst 0, 1, 0, 0, 0, 0) := rfl
theorem e127_15 (ls : mL) (st : List Value) (σ : mS) : ev 127 15 ls st σ = ev 127 16 ls (.int 0 :: st) σ := e_iconst 0 k127_15 (by decide)
theorem k127_16 : cod 127 16 = some (.bipush (7), 2, 0, 0, 0, 0) := rfl
theorem e127_16 (ls : mL) (st : List Value) (σ : mS) : ev 127 16 ls st σ = ev 127 18 ls (.int 7 :: st) σ := e_bipush 7 k127_16 (by decide)
theorem k127_18 : cod 127 18 = some (.invokestatic 78, 3, 87, 3, 0, 0) := rfl
theorem e127_18 (x0 : Int32) (x1 : Int32) (x2 : Int32) (ls : mL) (st : List Value) (σ : mS) (hm : mCat st ≤ 8) : ev 127 18 ls (.int x2 :: .int x1 :: .int x0 :: st) σ = (evM 87 [.int x0, .int x1, .int x2] σ).bind fun z => ev 127 21 ls (z.1.toList ++ st) z.2 := e_callS k127_18 (by decide) rfl ⟨hm, Nat.le_of_ble_eq_true rfl⟩
theorem k127_21 : cod 127 21 = some (.ifCond .eq (13), 3, 34, 0, 0, 0) := rfl
theorem e127_21 (x : Int32) (ls : mL) (st : List Value) (σ : mS) : ev 127 21 ls (.int x :: st) σ = if x = 0 then ev 127 34 ls st σ else ev 127 24 ls st σ := e_if_eq k127_21
theorem k127_24 : cod 127 24 = some (.iload_n 2, 1, 0, 0, 0, 0) := rfl
theorem e127_24 (a0 a1 : Option Value) (x : Int32) (ls : mL) (st : List Value) (σ : mS) : ev 127 24 (a0 :: a1 :: some (.int x) :: ls) st σ = ev 127 25 (a0 :: a1 :: some (.int x) :: ls) (.int x :: st) σ := e_iload1 k127_24 rfl
theorem k127_25 : cod 127 25 = some (.iconst 0, 1, 0, 0, 0, 0) := rfl
theorem e127_25 (ls : mL) (st : List Value) (σ : mS) : ev 127 25 ls st σ = ev 127 26 ls (.int 0 :: st) σ := e_iconst 0 k127_25 (by decide)
theorem k127_26 : cod 127 26 = some (.ldc 56, 2, 65535, 0, 0, 0) := rfl
theorem e127_26 (ls : mL) (st : List Value) (σ : mS) : ev 127 26 ls st σ = ev 127 28 ls (.int 65535 :: st) σ := e_ldcI 65535 k127_26 (by decide)
theorem k127_28 : cod 127 28 = some (.invokestatic 78, 3, 87, 3, 0, 0) := rfl
theorem e127_28 (x0 : Int32) (x1 : Int32) (x2 : Int32) (ls : mL) (st : List Value) (σ : mS) (hm : mCat st ≤ 8) : ev 127 28 ls (.int x2 :: .int x1 :: .int x0 :: st) σ = (evM 87 [.int x0, .int x1, .int x2] σ).bind fun z => ev 127 31 ls (z.1.toList ++ st) z.2 := e_callS k127_28 (by decide) rfl ⟨hm, Nat.le_of_ble_eq_true rfl⟩
theorem k127_31 : cod 127 31 = some (.ifCond .ne (5), 3, 36, 0, 0, 0) := rfl
theorem e127_31 (x : Int32) (ls : mL) (st : List Value) (σ : mS) : ev 127 31 ls (.int x :: st) σ = if x = 0 then ev 127 34 ls st σ else ev 127 36 ls st σ := e_if_ne k127_31
theorem k127_34 : cod 127 34 = some (.iconst (-1), 1, 0, 0, 0, 0) := rfl
theorem e127_34 (ls : mL) (st : List Value) (σ : mS) : ev 127 34 ls st σ = ev 127 35 ls (.int (-1) :: st) σ := e_iconst (-1) k127_34 (by decide)
theorem k127_35 : cod 127 35 = some (.ireturn, 1, 0, 0, 0, 0) := rfl
theorem e127_35 (x : Int32) (ls : mL) (σ : mS) : ev 127 35 ls [.int x] σ = some (some (.int x), σ) := e_iret k127_35 rfl
theorem k127_36 : cod 127 36 = some (.aload_n 0, 1, 0, 0, 0, 0) := rfl
theorem e127_36 (x : Nat) (ls : mL) (st : List Value) (σ : mS) : ev 127 36 (some (.ref x) :: ls) st σ = ev 127 37 (some (.ref x) :: ls) (.ref x :: st) σ := e_aload1 k127_36 rfl
theorem k127_37 : cod 127 37 = some (.getfield 53, 3, 7, 9, 0, 3) := rfl
theorem e127_37 (t : Nat) (ls : mL) (st : List Value) (σ : mS) : ev 127 37 ls (.ref t :: st) σ = gfK (σ.1 t) 7 9 (fun v => ev 127 40 ls (v :: st) σ) := e_getf k127_37
theorem k127_40 : cod 127 40 = some (.iload_n 1, 1, 0, 0, 0, 0) := rfl
theorem e127_40 (a0 : Option Value) (x : Int32) (ls : mL) (st : List Value) (σ : mS) : ev 127 40 (a0 :: some (.int x) :: ls) st σ = ev 127 41 (a0 :: some (.int x) :: ls) (.int x :: st) σ := e_iload1 k127_40 rfl
theorem k127_41 : cod 127 41 = some (.iaload, 1, 0, 0, 0, 0) := rfl
theorem e127_41 (j : Int32) (t : Nat) (ls : mL) (st : List Value) (σ : mS) : ev 127 41 ls (.int j :: .ref t :: st) σ = alK (σ.1 t) 0 j (fun v => ev 127 42 ls (.int v :: st) σ) := e_iald k127_41
theorem k127_42 : cod 127 42 = some (.istore_n 3, 1, 0, 0, 0, 0) := rfl
theorem e127_42i (a0 a1 : Option Value) (y : Int32) (o : Option Value) (x : Int32) (ls : mL) (st : List Value) (σ : mS) : ev 127 42 (a0 :: a1 :: some (.int y) :: o :: ls) (.int x :: st) σ = ev 127 43 (a0 :: a1 :: some (.int y) :: some (.int x) :: ls) st σ := e_istore1 k127_42 (Nat.le_add_left 4 ls.length)
theorem e127_42n (a0 a1 : Option Value) (o : Option Value) (x : Int32) (ls : mL) (st : List Value) (σ : mS) : ev 127 42 (a0 :: a1 :: none :: o :: ls) (.int x :: st) σ = ev 127 43 (a0 :: a1 :: none :: some (.int x) :: ls) st σ := e_istore1 k127_42 (Nat.le_add_left 4 ls.length)
theorem e127_42r (a0 a1 : Option Value) (y : Nat) (o : Option Value) (x : Int32) (ls : mL) (st : List Value) (σ : mS) : ev 127 42 (a0 :: a1 :: some (.ref y) :: o :: ls) (.int x :: st) σ = ev 127 43 (a0 :: a1 :: some (.ref y) :: some (.int x) :: ls) st σ := e_istore1 k127_42 (Nat.le_add_left 4 ls.length)
theorem k127_43 : cod 127 43 = some (.aload_n 0, 1, 0, 0, 0, 0) := rfl
theorem e127_43 (x : Nat) (ls : mL) (st : List Value) (σ : mS) : ev 127 43 (some (.ref x) :: ls) st σ = ev 127 44 (some (.ref x) :: ls) (.ref x :: st) σ := e_aload1 k127_43 rfl
theorem k127_44 : cod 127 44 = some (.getfield 53, 3, 7, 9, 0, 3) := rfl
theorem e127_44 (t : Nat) (ls : mL) (st : List Value) (σ : mS) : ev 127 44 ls (.ref t :: st) σ = gfK (σ.1 t) 7 9 (fun v => ev 127 47 ls (v :: st) σ) := e_getf k127_44
theorem k127_47 : cod 127 47 = some (.iload_n 1, 1, 0, 0, 0, 0) := rfl
theorem e127_47 (a0 : Option Value) (x : Int32) (ls : mL) (st : List Value) (σ : mS) : ev 127 47 (a0 :: some (.int x) :: ls) st σ = ev 127 48 (a0 :: some (.int x) :: ls) (.int x :: st) σ := e_iload1 k127_47 rfl
theorem k127_48 : cod 127 48 = some (.iload_n 2, 1, 0, 0, 0, 0) := rfl
theorem e127_48 (a0 a1 : Option Value) (x : Int32) (ls : mL) (st : List Value) (σ : mS) : ev 127 48 (a0 :: a1 :: some (.int x) :: ls) st σ = ev 127 49 (a0 :: a1 :: some (.int x) :: ls) (.int x :: st) σ := e_iload1 k127_48 rfl
theorem k127_49 : cod 127 49 = some (.iastore, 1, 0, 0, 0, 0) := rfl
theorem e127_49 (j x : Int32) (t : Nat) (ls : mL) (st : List Value) (σ : mS) : ev 127 49 ls (.int x :: .int j :: .ref t :: st) σ = asK (σ.1 t) 0 j x (fun e => ev 127 50 ls st (mset σ t e)) := e_iast k127_49
theorem k127_50 : cod 127 50 = some (.iload_n 3, 1, 0, 0, 0, 0) := rfl
theorem e127_50 (a0 a1 a2 : Option Value) (x : Int32) (ls : mL) (st : List Value) (σ : mS) : ev 127 50 (a0 :: a1 :: a2 :: some (.int x) :: ls) st σ = ev 127 51 (a0 :: a1 :: a2 :: some (.int x) :: ls) (.int x :: st) σ := e_iload1 k127_50 rfl
theorem k127_51 : cod 127 51 = some (.ireturn, 1, 0, 0, 0, 0) := rfl
theorem e127_51 (x : Int32) (ls : mL) (σ : mS) : ev 127 51 ls [.int x] σ = some (some (.int x), σ) := e_iret k127_51 rfl
theorem m127 (t : Nat) (x0 : Int32) (x1 : Int32) (σ : mS) : evM 127 [.ref t, .int x0, .int x1] σ = ev 127 0 [some (.ref t), some (.int x0), some (.int x1), none] [] σ := rfl
theorem k128_0 : cod 128 0 = some (.iload_n 1, 1, 0, 0, 0, 0) := rfl
theorem e128_0 (a0 : Option Value) (x : Int32) (ls : mL) (st : List Value) (σ : mS) : ev 128 0 (a0 :: some (.int x) :: ls) st σ = ev 128 1 (a0 :: some (.int x) :: ls) (.int x :: st) σ := e_iload1 k128_0 rfl
theorem k128_1 : cod 128 1 = some (.invokestatic 108, 3, 85, 1, 0, 0) := rfl
theorem e128_1 (x0 : Int32) (ls : mL) (st : List Value) (σ : mS) (hm : mCat st ≤ 8) : ev 128 1 ls (.int x0 :: st) σ = (evM 85 [.int x0] σ).bind fun z => ev 128 4 ls (z.1.toList ++ st) z.2 := e_callS k128_1 (by decide) rfl ⟨hm, Nat.le_of_ble_eq_true rfl⟩
theorem k128_4 : cod 128 4 = some (.ifCond .ne (5), 3, 9, 0, 0, 0) := rfl
theorem e128_4 (x : Int32) (ls : mL) (st : List Value) (σ : mS) : ev 128 4 ls (.int x :: st) σ = if x = 0 then ev 128 7 ls st σ else ev 128 9 ls st σ := e_if_ne k128_4
theorem k128_7 : cod 128 7 = some (.iconst (-1), 1, 0, 0, 0, 0) := rfl
theorem e128_7 (ls : mL) (st : List Value) (σ : mS) : ev 128 7 ls st σ = ev 128 8 ls (.int (-1) :: st) σ := e_iconst (-1) k128_7 (by decide)
theorem k128_8 : cod 128 8 = some (.ireturn, 1, 0, 0, 0, 0) := rfl
theorem e128_8 (x : Int32) (ls : mL) (σ : mS) : ev 128 8 ls [.int x] σ = some (some (.int x), σ) := e_iret k128_8 rfl
theorem k128_9 : cod 128 9 = some (.bipush (-9), 2, 0, 0, 0, 0) := rfl
theorem e128_9 (ls : mL) (st : List Value) (σ : mS) : ev 128 9 ls st σ = ev 128 11 ls (.int (-9) :: st) σ := e_bipush (-9) k128_9 (by decide)
theorem k128_11 : cod 128 11 = some (.istore_n 2, 1, 0, 0, 0, 0) := rfl
theorem e128_11i (a0 : Option Value) (y : Int32) (o : Option Value) (x : Int32) (ls : mL) (st : List Value) (σ : mS) : ev 128 11 (a0 :: some (.int y) :: o :: ls) (.int x :: st) σ = ev 128 12 (a0 :: some (.int y) :: some (.int x) :: ls) st σ := e_istore1 k128_11 (Nat.le_add_left 3 ls.length)
theorem e128_11n (a0 : Option Value) (o : Option Value) (x : Int32) (ls : mL) (st : List Value) (σ : mS) : ev 128 11 (a0 :: none :: o :: ls) (.int x :: st) σ = ev 128 12 (a0 :: none :: some (.int x) :: ls) st σ := e_istore1 k128_11 (Nat.le_add_left 3 ls.length)
theorem e128_11r (a0 : Option Value) (y : Nat) (o : Option Value) (x : Int32) (ls : mL) (st : List Value) (σ : mS) : ev 128 11 (a0 :: some (.ref y) :: o :: ls) (.int x :: st) σ = ev 128 12 (a0 :: some (.ref y) :: some (.int x) :: ls) st σ := e_istore1 k128_11 (Nat.le_add_left 3 ls.length)
theorem k128_12 : cod 128 12 = some (.iconst 0, 1, 0, 0, 0, 0) := rfl
theorem e128_12 (ls : mL) (st : List Value) (σ : mS) : ev 128 12 ls st σ = ev 128 13 ls (.int 0 :: st) σ := e_iconst 0 k128_12 (by decide)
theorem k128_13 : cod 128 13 = some (.istore_n 3, 1, 0, 0, 0, 0) := rfl
theorem e128_13i (a0 a1 : Option Value) (y : Int32) (o : Option Value) (x : Int32) (ls : mL) (st : List Value) (σ : mS) : ev 128 13 (a0 :: a1 :: some (.int y) :: o :: ls) (.int x :: st) σ = ev 128 14 (a0 :: a1 :: some (.int y) :: some (.int x) :: ls) st σ := e_istore1 k128_13 (Nat.le_add_left 4 ls.length)
theorem e128_13n (a0 a1 : Option Value) (o : Option Value) (x : Int32) (ls : mL) (st : List Value) (σ : mS) : ev 128 13 (a0 :: a1 :: none :: o :: ls) (.int x :: st) σ = ev 128 14 (a0 :: a1 :: none :: some (.int x) :: ls) st σ := e_istore1 k128_13 (Nat.le_add_left 4 ls.length)
theorem e128_13r (a0 a1 : Option Value) (y : Nat) (o : Option Value) (x : Int32) (ls : mL) (st : List Value) (σ : mS) : ev 128 13 (a0 :: a1 :: some (.ref y) :: o :: ls) (.int x :: st) σ = ev 128 14 (a0 :: a1 :: some (.ref y) :: some (.int x) :: ls) st σ := e_istore1 k128_13 (Nat.le_add_left 4 ls.length)
theorem k128_14 : cod 128 14 = some (.iload_n 3, 1, 0, 0, 0, 0) := rfl
theorem e128_14 (a0 a1 a2 : Option Value) (x : Int32) (ls : mL) (st : List Value) (σ : mS) : ev 128 14 (a0 :: a1 :: a2 :: some (.int x) :: ls) st σ = ev 128 15 (a0 :: a1 :: a2 :: some (.int x) :: ls) (.int x :: st) σ := e_iload1 k128_14 rfl
theorem k128_15 : cod 128 15 = some (.bipush (8), 2, 0, 0, 0, 0) := rfl
theorem e128_15 (ls : mL) (st : List Value) (σ : mS) : ev 128 15 ls st σ = ev 128 17 ls (.int 8 :: st) σ := e_bipush 8 k128_15 (by decide)
theorem k128_17 : cod 128 17 = some (.if_icmp .ge (39), 3, 56, 0, 0, 0) := rfl
theorem e128_17 (x y : Int32) (ls : mL) (st : List Value) (σ : mS) : ev 128 17 ls (.int y :: .int x :: st) σ = if y ≤ x then ev 128 56 ls st σ else ev 128 20 ls st σ := e_ic_ge k128_17
theorem k128_20 : cod 128 20 = some (.aload_n 0, 1, 0, 0, 0, 0) := rfl
theorem e128_20 (x : Nat) (ls : mL) (st : List Value) (σ : mS) : ev 128 20 (some (.ref x) :: ls) st σ = ev 128 21 (some (.ref x) :: ls) (.ref x :: st) σ := e_aload1 k128_20 rfl
theorem k128_21 : cod 128 21 = some (.getfield 26, 3, 7, 2, 0, 3) := rfl
theorem e128_21 (t : Nat) (ls : mL) (st : List Value) (σ : mS) : ev 128 21 ls (.ref t :: st) σ = gfK (σ.1 t) 7 2 (fun v => ev 128 24 ls (v :: st) σ) := e_getf k128_21
theorem k128_24 : cod 128 24 = some (.iload_n 1, 1, 0, 0, 0, 0) := rfl
theorem e128_24 (a0 : Option Value) (x : Int32) (ls : mL) (st : List Value) (σ : mS) : ev 128 24 (a0 :: some (.int x) :: ls) st σ = ev 128 25 (a0 :: some (.int x) :: ls) (.int x :: st) σ := e_iload1 k128_24 rfl
theorem k128_25 : cod 128 25 = some (.iload_n 3, 1, 0, 0, 0, 0) := rfl
theorem e128_25 (a0 a1 a2 : Option Value) (x : Int32) (ls : mL) (st : List Value) (σ : mS) : ev 128 25 (a0 :: a1 :: a2 :: some (.int x) :: ls) st σ = ev 128 26 (a0 :: a1 :: a2 :: some (.int x) :: ls) (.int x :: st) σ := e_iload1 k128_25 rfl
theorem k128_26 : cod 128 26 = some (.invokevirtual 257, 3, 78, 2, 0, 6) := rfl
theorem e128_26 (t : Nat) (x0 : Int32) (x1 : Int32) (ls : mL) (st : List Value) (σ : mS) (hm : mCat st ≤ 8) : ev 128 26 ls (.int x1 :: .int x0 :: .ref t :: st) σ = isC (σ.1 t) 6 ((evM 78 [.ref t, .int x0, .int x1] σ).bind fun z => ev 128 29 ls (z.1.toList ++ st) z.2) := e_callVK k128_26 (by decide) rfl ⟨hm, Nat.le_of_ble_eq_true rfl⟩
theorem k128_29 : cod 128 29 = some (.ifCond .eq (21), 3, 50, 0, 0, 0) := rfl
theorem e128_29 (x : Int32) (ls : mL) (st : List Value) (σ : mS) : ev 128 29 ls (.int x :: st) σ = if x = 0 then ev 128 50 ls st σ else ev 128 32 ls st σ := e_if_eq k128_29
theorem k128_32 : cod 128 32 = some (.iload_n 2, 1, 0, 0, 0, 0) := rfl
theorem e128_32 (a0 a1 : Option Value) (x : Int32) (ls : mL) (st : List Value) (σ : mS) : ev 128 32 (a0 :: a1 :: some (.int x) :: ls) st σ = ev 128 33 (a0 :: a1 :: some (.int x) :: ls) (.int x :: st) σ := e_iload1 k128_32 rfl
theorem k128_33 : cod 128 33 = some (.bipush (-9), 2, 0, 0, 0, 0) := rfl
theorem e128_33 (ls : mL) (st : List Value) (σ : mS) : ev 128 33 ls st σ = ev 128 35 ls (.int (-9) :: st) σ := e_bipush (-9) k128_33 (by decide)
theorem k128_35 : cod 128 35 = some (.if_icmp .eq (13), 3, 48, 0, 0, 0) := rfl
theorem e128_35 (x y : Int32) (ls : mL) (st : List Value) (σ : mS) : ev 128 35 ls (.int y :: .int x :: st) σ = if x = y then ev 128 48 ls st σ else ev 128 38 ls st σ := e_ic_eq k128_35
theorem k128_38 : cod 128 38 = some (.aload_n 0, 1, 0, 0, 0, 0) := rfl
theorem e128_38 (x : Nat) (ls : mL) (st : List Value) (σ : mS) : ev 128 38 (some (.ref x) :: ls) st σ = ev 128 39 (some (.ref x) :: ls) (.ref x :: st) σ := e_aload1 k128_38 rfl
theorem k128_39 : cod 128 39 = some (.iload_n 1, 1, 0, 0, 0, 0) := rfl
theorem e128_39 (a0 : Option Value) (x : Int32) (ls : mL) (st : List Value) (σ : mS) : ev 128 39 (a0 :: some (.int x) :: ls) st σ = ev 128 40 (a0 :: some (.int x) :: ls) (.int x :: st) σ := e_iload1 k128_39 rfl
theorem k128_40 : cod 128 40 = some (.iload_n 3, 1, 0, 0, 0, 0) := rfl
theorem e128_40 (a0 a1 a2 : Option Value) (x : Int32) (ls : mL) (st : List Value) (σ : mS) : ev 128 40 (a0 :: a1 :: a2 :: some (.int x) :: ls) st σ = ev 128 41 (a0 :: a1 :: a2 :: some (.int x) :: ls) (.int x :: st) σ := e_iload1 k128_40 rfl
theorem k128_41 : cod 128 41 = some (.iload_n 2, 1, 0, 0, 0, 0) := rfl
theorem e128_41 (a0 a1 : Option Value) (x : Int32) (ls : mL) (st : List Value) (σ : mS) : ev 128 41 (a0 :: a1 :: some (.int x) :: ls) st σ = ev 128 42 (a0 :: a1 :: some (.int x) :: ls) (.int x :: st) σ := e_iload1 k128_41 rfl
theorem k128_42 : cod 128 42 = some (.invokevirtual 260, 3, 129, 3, 0, 7) := rfl
theorem e128_42 (t : Nat) (x0 : Int32) (x1 : Int32) (x2 : Int32) (ls : mL) (st : List Value) (σ : mS) (hm : mCat st ≤ 8) : ev 128 42 ls (.int x2 :: .int x1 :: .int x0 :: .ref t :: st) σ = isC (σ.1 t) 7 ((evM 129 [.ref t, .int x0, .int x1, .int x2] σ).bind fun z => ev 128 45 ls (z.1.toList ++ st) z.2) := e_callVK k128_42 (by decide) rfl ⟨hm, Nat.le_of_ble_eq_true rfl⟩
theorem k128_45 : cod 128 45 = some (.ifCond .eq (5), 3, 50, 0, 0, 0) := rfl
theorem e128_45 (x : Int32) (ls : mL) (st : List Value) (σ : mS) : ev 128 45 ls (.int x :: st) σ = if x = 0 then ev 128 50 ls st σ else ev 128 48 ls st σ := e_if_eq k128_45
theorem k128_48 : cod 128 48 = some (.iload_n 3, 1, 0, 0, 0, 0) := rfl
theorem e128_48 (a0 a1 a2 : Option Value) (x : Int32) (ls : mL) (st : List Value) (σ : mS) : ev 128 48 (a0 :: a1 :: a2 :: some (.int x) :: ls) st σ = ev 128 49 (a0 :: a1 :: a2 :: some (.int x) :: ls) (.int x :: st) σ := e_iload1 k128_48 rfl
theorem k128_49 : cod 128 49 = some (.istore_n 2, 1, 0, 0, 0, 0) := rfl
theorem e128_49i (a0 : Option Value) (y : Int32) (o : Option Value) (x : Int32) (ls : mL) (st : List Value) (σ : mS) : ev 128 49 (a0 :: some (.int y) :: o :: ls) (.int x :: st) σ = ev 128 50 (a0 :: some (.int y) :: some (.int x) :: ls) st σ := e_istore1 k128_49 (Nat.le_add_left 3 ls.length)
theorem e128_49n (a0 : Option Value) (o : Option Value) (x : Int32) (ls : mL) (st : List Value) (σ : mS) : ev 128 49 (a0 :: none :: o :: ls) (.int x :: st) σ = ev 128 50 (a0 :: none :: some (.int x) :: ls) st σ := e_istore1 k128_49 (Nat.le_add_left 3 ls.length)
theorem e128_49r (a0 : Option Value) (y : Nat) (o : Option Value) (x : Int32) (ls : mL) (st : List Value) (σ : mS) : ev 128 49 (a0 :: some (.ref y) :: o :: ls) (.int x :: st) σ = ev 128 50 (a0 :: some (.ref y) :: some (.int x) :: ls) st σ := e_istore1 k128_49 (Nat.le_add_left 3 ls.length)
theorem k128_50 : cod 128 50 = some (.iinc 3 (1), 3, 0, 0, 0, 0) := rfl
theorem e128_50i (a0 a1 : Option Value) (y : Int32) (x : Int32) (ls : mL) (st : List Value) (σ : mS) : ev 128 50 (a0 :: a1 :: some (.int y) :: some (.int x) :: ls) st σ = ev 128 53 (a0 :: a1 :: some (.int y) :: some (.int (x + 1)) :: ls) st σ := e_iinc 1 k128_50 (by decide) rfl
theorem e128_50n (a0 a1 : Option Value) (x : Int32) (ls : mL) (st : List Value) (σ : mS) : ev 128 50 (a0 :: a1 :: none :: some (.int x) :: ls) st σ = ev 128 53 (a0 :: a1 :: none :: some (.int (x + 1)) :: ls) st σ := e_iinc 1 k128_50 (by decide) rfl
theorem e128_50r (a0 a1 : Option Value) (y : Nat) (x : Int32) (ls : mL) (st : List Value) (σ : mS) : ev 128 50 (a0 :: a1 :: some (.ref y) :: some (.int x) :: ls) st σ = ev 128 53 (a0 :: a1 :: some (.ref y) :: some (.int (x + 1)) :: ls) st σ := e_iinc 1 k128_50 (by decide) rfl
theorem k128_53 : cod 128 53 = some (.goto (-39), 3, 14, 0, 0, 0) := rfl
theorem e128_53 (ls : mL) (st : List Value) (σ : mS) : ev 128 53 ls st σ = ev 128 14 ls st σ := e_goto k128_53
theorem k128_56 : cod 128 56 = some (.iload_n 2, 1, 0, 0, 0, 0) := rfl
theorem e128_56 (a0 a1 : Option Value) (x : Int32) (ls : mL) (st : List Value) (σ : mS) : ev 128 56 (a0 :: a1 :: some (.int x) :: ls) st σ = ev 128 57 (a0 :: a1 :: some (.int x) :: ls) (.int x :: st) σ := e_iload1 k128_56 rfl
theorem k128_57 : cod 128 57 = some (.ireturn, 1, 0, 0, 0, 0) := rfl
theorem e128_57 (x : Int32) (ls : mL) (σ : mS) : ev 128 57 ls [.int x] σ = some (some (.int x), σ) := e_iret k128_57 rfl
theorem m128 (t : Nat) (x0 : Int32) (σ : mS) : evM 128 [.ref t, .int x0] σ = ev 128 0 [some (.ref t), some (.int x0), none, none] [] σ := rfl
theorem k129_0 : cod 129 0 = some (.iconst 0, 1, 0, 0, 0, 0) := rfl
theorem e129_0 (ls : mL) (st : List Value) (σ : mS) : ev 129 0 ls st σ = ev 129 1 ls (.int 0 :: st) σ := e_iconst 0 k129_0 (by decide)
theorem k129_1 : cod 129 1 = some (.istore 4, 2, 0, 0, 0, 0) := rfl
theorem e129_1i (a0 a1 a2 : Option Value) (y : Int32) (o : Option Value) (x : Int32) (ls : mL) (st : List Value) (σ : mS) : ev 129 1 (a0 :: a1 :: a2 :: some (.int y) :: o :: ls) (.int x :: st) σ = ev 129 3 (a0 :: a1 :: a2 :: some (.int y) :: some (.int x) :: ls) st σ := e_istore0 k129_1 (Nat.le_add_left 5 ls.length)
theorem e129_1n (a0 a1 a2 : Option Value) (o : Option Value) (x : Int32) (ls : mL) (st : List Value) (σ : mS) : ev 129 1 (a0 :: a1 :: a2 :: none :: o :: ls) (.int x :: st) σ = ev 129 3 (a0 :: a1 :: a2 :: none :: some (.int x) :: ls) st σ := e_istore0 k129_1 (Nat.le_add_left 5 ls.length)
theorem e129_1r (a0 a1 a2 : Option Value) (y : Nat) (o : Option Value) (x : Int32) (ls : mL) (st : List Value) (σ : mS) : ev 129 1 (a0 :: a1 :: a2 :: some (.ref y) :: o :: ls) (.int x :: st) σ = ev 129 3 (a0 :: a1 :: a2 :: some (.ref y) :: some (.int x) :: ls) st σ := e_istore0 k129_1 (Nat.le_add_left 5 ls.length)
theorem k129_3 : cod 129 3 = some (.iload 4, 2, 0, 0, 0, 0) := rfl
theorem e129_3 (a0 a1 a2 a3 : Option Value) (x : Int32) (ls : mL) (st : List Value) (σ : mS) : ev 129 3 (a0 :: a1 :: a2 :: a3 :: some (.int x) :: ls) st σ = ev 129 5 (a0 :: a1 :: a2 :: a3 :: some (.int x) :: ls) (.int x :: st) σ := e_iload0 k129_3 rfl
theorem k129_5 : cod 129 5 = some (.bipush (8), 2, 0, 0, 0, 0) := rfl
theorem e129_5 (ls : mL) (st : List Value) (σ : mS) : ev 129 5 ls st σ = ev 129 7 ls (.int 8 :: st) σ := e_bipush 8 k129_5 (by decide)
theorem k129_7 : cod 129 7 = some (.if_icmp .ge (91), 3, 98, 0, 0, 0) := rfl
theorem e129_7 (x y : Int32) (ls : mL) (st : List Value) (σ : mS) : ev 129 7 ls (.int y :: .int x :: st) σ = if y ≤ x then ev 129 98 ls st σ else ev 129 10 ls st σ := e_ic_ge k129_7
theorem k129_10 : cod 129 10 = some (.aload_n 0, 1, 0, 0, 0, 0) := rfl
theorem e129_10 (x : Nat) (ls : mL) (st : List Value) (σ : mS) : ev 129 10 (some (.ref x) :: ls) st σ = ev 129 11 (some (.ref x) :: ls) (.ref x :: st) σ := e_aload1 k129_10 rfl
theorem k129_11 : cod 129 11 = some (.getfield 26, 3, 7, 2, 0, 3) := rfl
theorem e129_11 (t : Nat) (ls : mL) (st : List Value) (σ : mS) : ev 129 11 ls (.ref t :: st) σ = gfK (σ.1 t) 7 2 (fun v => ev 129 14 ls (v :: st) σ) := e_getf k129_11
theorem k129_14 : cod 129 14 = some (.iload_n 1, 1, 0, 0, 0, 0) := rfl
theorem e129_14 (a0 : Option Value) (x : Int32) (ls : mL) (st : List Value) (σ : mS) : ev 129 14 (a0 :: some (.int x) :: ls) st σ = ev 129 15 (a0 :: some (.int x) :: ls) (.int x :: st) σ := e_iload1 k129_14 rfl
theorem k129_15 : cod 129 15 = some (.iload_n 2, 1, 0, 0, 0, 0) := rfl
theorem e129_15 (a0 a1 : Option Value) (x : Int32) (ls : mL) (st : List Value) (σ : mS) : ev 129 15 (a0 :: a1 :: some (.int x) :: ls) st σ = ev 129 16 (a0 :: a1 :: some (.int x) :: ls) (.int x :: st) σ := e_iload1 k129_15 rfl
theorem k129_16 : cod 129 16 = some (.invokevirtual 327, 3, 64, 2, 0, 6) := rfl
theorem e129_16 (t : Nat) (x0 : Int32) (x1 : Int32) (ls : mL) (st : List Value) (σ : mS) (hm : mCat st ≤ 8) : ev 129 16 ls (.int x1 :: .int x0 :: .ref t :: st) σ = isC (σ.1 t) 6 ((evM 64 [.ref t, .int x0, .int x1] σ).bind fun z => ev 129 19 ls (z.1.toList ++ st) z.2) := e_callVK k129_16 (by decide) rfl ⟨hm, Nat.le_of_ble_eq_true rfl⟩
theorem k129_19 : cod 129 19 = some (.aload_n 0, 1, 0, 0, 0, 0) := rfl
theorem e129_19 (x : Nat) (ls : mL) (st : List Value) (σ : mS) : ev 129 19 (some (.ref x) :: ls) st σ = ev 129 20 (some (.ref x) :: ls) (.ref x :: st) σ := e_aload1 k129_19 rfl
theorem k129_20 : cod 129 20 = some (.iload 4, 2, 0, 0, 0, 0) := rfl
theorem e129_20 (a0 a1 a2 a3 : Option Value) (x : Int32) (ls : mL) (st : List Value) (σ : mS) : ev 129 20 (a0 :: a1 :: a2 :: a3 :: some (.int x) :: ls) st σ = ev 129 22 (a0 :: a1 :: a2 :: a3 :: some (.int x) :: ls) (.int x :: st) σ := e_iload0 k129_20 rfl
theorem k129_22 : cod 129 22 = some (.invokevirtual 263, 3, 130, 1, 0, 7) := rfl
theorem e129_22 (t : Nat) (x0 : Int32) (ls : mL) (st : List Value) (σ : mS) (hm : mCat st ≤ 8) : ev 129 22 ls (.int x0 :: .ref t :: st) σ = isC (σ.1 t) 7 ((evM 130 [.ref t, .int x0] σ).bind fun z => ev 129 25 ls (z.1.toList ++ st) z.2) := e_callVK k129_22 (by decide) rfl ⟨hm, Nat.le_of_ble_eq_true rfl⟩
theorem k129_25 : cod 129 25 = some (.iand, 1, 0, 0, 0, 0) := rfl
theorem e129_25 (x y : Int32) (ls : mL) (st : List Value) (σ : mS) : ev 129 25 ls (.int y :: .int x :: st) σ = ev 129 26 ls (.int (x &&& y) :: st) σ := e_iand k129_25
theorem k129_26 : cod 129 26 = some (.invokestatic 330, 3, 219, 1, 0, 0) := rfl
theorem e129_26 (x0 : Int32) (ls : mL) (st : List Value) (σ : mS) (hm : mCat st ≤ 8) : ev 129 26 ls (.int x0 :: st) σ = (evM 219 [.int x0] σ).bind fun z => ev 129 29 ls (z.1.toList ++ st) z.2 := e_callS k129_26 (by decide) rfl ⟨hm, Nat.le_of_ble_eq_true rfl⟩
theorem k129_29 : cod 129 29 = some (.aload_n 0, 1, 0, 0, 0, 0) := rfl
theorem e129_29 (x : Nat) (ls : mL) (st : List Value) (σ : mS) : ev 129 29 (some (.ref x) :: ls) st σ = ev 129 30 (some (.ref x) :: ls) (.ref x :: st) σ := e_aload1 k129_29 rfl
theorem k129_30 : cod 129 30 = some (.getfield 26, 3, 7, 2, 0, 3) := rfl
theorem e129_30 (t : Nat) (ls : mL) (st : List Value) (σ : mS) : ev 129 30 ls (.ref t :: st) σ = gfK (σ.1 t) 7 2 (fun v => ev 129 33 ls (v :: st) σ) := e_getf k129_30
theorem k129_33 : cod 129 33 = some (.iload_n 1, 1, 0, 0, 0, 0) := rfl
theorem e129_33 (a0 : Option Value) (x : Int32) (ls : mL) (st : List Value) (σ : mS) : ev 129 33 (a0 :: some (.int x) :: ls) st σ = ev 129 34 (a0 :: some (.int x) :: ls) (.int x :: st) σ := e_iload1 k129_33 rfl
theorem k129_34 : cod 129 34 = some (.iload_n 3, 1, 0, 0, 0, 0) := rfl
theorem e129_34 (a0 a1 a2 : Option Value) (x : Int32) (ls : mL) (st : List Value) (σ : mS) : ev 129 34 (a0 :: a1 :: a2 :: some (.int x) :: ls) st σ = ev 129 35 (a0 :: a1 :: a2 :: some (.int x) :: ls) (.int x :: st) σ := e_iload1 k129_34 rfl
theorem k129_35 : cod 129 35 = some (.invokevirtual 115, 3, 62, 2, 0, 6) := rfl
theorem e129_35 (t : Nat) (x0 : Int32) (x1 : Int32) (ls : mL) (st : List Value) (σ : mS) (hm : mCat st ≤ 8) : ev 129 35 ls (.int x1 :: .int x0 :: .ref t :: st) σ = isC (σ.1 t) 6 ((evM 62 [.ref t, .int x0, .int x1] σ).bind fun z => ev 129 38 ls (z.1.toList ++ st) z.2) := e_callVK k129_35 (by decide) rfl ⟨hm, Nat.le_of_ble_eq_true rfl⟩
theorem k129_38 : cod 129 38 = some (.imul, 1, 0, 0, 0, 0) := rfl
theorem e129_38 (x y : Int32) (ls : mL) (st : List Value) (σ : mS) : ev 129 38 ls (.int y :: .int x :: st) σ = ev 129 39 ls (.int (x * y) :: st) σ := e_imul k129_38
theorem k129_39 : cod 129 39 = some (.istore 5, 2, 0, 0, 0, 0) := rfl
theorem e129_39i (a0 a1 a2 a3 : Option Value) (y : Int32) (o : Option Value) (x : Int32) (ls : mL) (st : List Value) (σ : mS) : ev 129 39 (a0 :: a1 :: a2 :: a3 :: some (.int y) :: o :: ls) (.int x :: st) σ = ev 129 41 (a0 :: a1 :: a2 :: a3 :: some (.int y) :: some (.int x) :: ls) st σ := e_istore0 k129_39 (Nat.le_add_left 6 ls.length)
theorem e129_39n (a0 a1 a2 a3 : Option Value) (o : Option Value) (x : Int32) (ls : mL) (st : List Value) (σ : mS) : ev 129 39 (a0 :: a1 :: a2 :: a3 :: none :: o :: ls) (.int x :: st) σ = ev 129 41 (a0 :: a1 :: a2 :: a3 :: none :: some (.int x) :: ls) st σ := e_istore0 k129_39 (Nat.le_add_left 6 ls.length)
theorem e129_39r (a0 a1 a2 a3 : Option Value) (y : Nat) (o : Option Value) (x : Int32) (ls : mL) (st : List Value) (σ : mS) : ev 129 39 (a0 :: a1 :: a2 :: a3 :: some (.ref y) :: o :: ls) (.int x :: st) σ = ev 129 41 (a0 :: a1 :: a2 :: a3 :: some (.ref y) :: some (.int x) :: ls) st σ := e_istore0 k129_39 (Nat.le_add_left 6 ls.length)
theorem k129_41 : cod 129 41 = some (.aload_n 0, 1, 0, 0, 0, 0) := rfl
theorem e129_41 (x : Nat) (ls : mL) (st : List Value) (σ : mS) : ev 129 41 (some (.ref x) :: ls) st σ = ev 129 42 (some (.ref x) :: ls) (.ref x :: st) σ := e_aload1 k129_41 rfl
theorem k129_42 : cod 129 42 = some (.getfield 26, 3, 7, 2, 0, 3) := rfl
theorem e129_42 (t : Nat) (ls : mL) (st : List Value) (σ : mS) : ev 129 42 ls (.ref t :: st) σ = gfK (σ.1 t) 7 2 (fun v => ev 129 45 ls (v :: st) σ) := e_getf k129_42
theorem k129_45 : cod 129 45 = some (.iload_n 1, 1, 0, 0, 0, 0) := rfl
theorem e129_45 (a0 : Option Value) (x : Int32) (ls : mL) (st : List Value) (σ : mS) : ev 129 45 (a0 :: some (.int x) :: ls) st σ = ev 129 46 (a0 :: some (.int x) :: ls) (.int x :: st) σ := e_iload1 k129_45 rfl
theorem k129_46 : cod 129 46 = some (.iload_n 3, 1, 0, 0, 0, 0) := rfl
theorem e129_46 (a0 a1 a2 : Option Value) (x : Int32) (ls : mL) (st : List Value) (σ : mS) : ev 129 46 (a0 :: a1 :: a2 :: some (.int x) :: ls) st σ = ev 129 47 (a0 :: a1 :: a2 :: some (.int x) :: ls) (.int x :: st) σ := e_iload1 k129_46 rfl
theorem k129_47 : cod 129 47 = some (.invokevirtual 327, 3, 64, 2, 0, 6) := rfl
theorem e129_47 (t : Nat) (x0 : Int32) (x1 : Int32) (ls : mL) (st : List Value) (σ : mS) (hm : mCat st ≤ 8) : ev 129 47 ls (.int x1 :: .int x0 :: .ref t :: st) σ = isC (σ.1 t) 6 ((evM 64 [.ref t, .int x0, .int x1] σ).bind fun z => ev 129 50 ls (z.1.toList ++ st) z.2) := e_callVK k129_47 (by decide) rfl ⟨hm, Nat.le_of_ble_eq_true rfl⟩
theorem k129_50 : cod 129 50 = some (.aload_n 0, 1, 0, 0, 0, 0) := rfl
theorem e129_50 (x : Nat) (ls : mL) (st : List Value) (σ : mS) : ev 129 50 (some (.ref x) :: ls) st σ = ev 129 51 (some (.ref x) :: ls) (.ref x :: st) σ := e_aload1 k129_50 rfl
theorem k129_51 : cod 129 51 = some (.iload 4, 2, 0, 0, 0, 0) := rfl
theorem e129_51 (a0 a1 a2 a3 : Option Value) (x : Int32) (ls : mL) (st : List Value) (σ : mS) : ev 129 51 (a0 :: a1 :: a2 :: a3 :: some (.int x) :: ls) st σ = ev 129 53 (a0 :: a1 :: a2 :: a3 :: some (.int x) :: ls) (.int x :: st) σ := e_iload0 k129_51 rfl
theorem k129_53 : cod 129 53 = some (.invokevirtual 263, 3, 130, 1, 0, 7) := rfl
theorem e129_53 (t : Nat) (x0 : Int32) (ls : mL) (st : List Value) (σ : mS) (hm : mCat st ≤ 8) : ev 129 53 ls (.int x0 :: .ref t :: st) σ = isC (σ.1 t) 7 ((evM 130 [.ref t, .int x0] σ).bind fun z => ev 129 56 ls (z.1.toList ++ st) z.2) := e_callVK k129_53 (by decide) rfl ⟨hm, Nat.le_of_ble_eq_true rfl⟩
theorem k129_56 : cod 129 56 = some (.iand, 1, 0, 0, 0, 0) := rfl
theorem e129_56 (x y : Int32) (ls : mL) (st : List Value) (σ : mS) : ev 129 56 ls (.int y :: .int x :: st) σ = ev 129 57 ls (.int (x &&& y) :: st) σ := e_iand k129_56
theorem k129_57 : cod 129 57 = some (.invokestatic 330, 3, 219, 1, 0, 0) := rfl
theorem e129_57 (x0 : Int32) (ls : mL) (st : List Value) (σ : mS) (hm : mCat st ≤ 8) : ev 129 57 ls (.int x0 :: st) σ = (evM 219 [.int x0] σ).bind fun z => ev 129 60 ls (z.1.toList ++ st) z.2 := e_callS k129_57 (by decide) rfl ⟨hm, Nat.le_of_ble_eq_true rfl⟩
theorem k129_60 : cod 129 60 = some (.aload_n 0, 1, 0, 0, 0, 0) := rfl
theorem e129_60 (x : Nat) (ls : mL) (st : List Value) (σ : mS) : ev 129 60 (some (.ref x) :: ls) st σ = ev 129 61 (some (.ref x) :: ls) (.ref x :: st) σ := e_aload1 k129_60 rfl
theorem k129_61 : cod 129 61 = some (.getfield 26, 3, 7, 2, 0, 3) := rfl
theorem e129_61 (t : Nat) (ls : mL) (st : List Value) (σ : mS) : ev 129 61 ls (.ref t :: st) σ = gfK (σ.1 t) 7 2 (fun v => ev 129 64 ls (v :: st) σ) := e_getf k129_61
theorem k129_64 : cod 129 64 = some (.iload_n 1, 1, 0, 0, 0, 0) := rfl
theorem e129_64 (a0 : Option Value) (x : Int32) (ls : mL) (st : List Value) (σ : mS) : ev 129 64 (a0 :: some (.int x) :: ls) st σ = ev 129 65 (a0 :: some (.int x) :: ls) (.int x :: st) σ := e_iload1 k129_64 rfl
theorem k129_65 : cod 129 65 = some (.iload_n 2, 1, 0, 0, 0, 0) := rfl
theorem e129_65 (a0 a1 : Option Value) (x : Int32) (ls : mL) (st : List Value) (σ : mS) : ev 129 65 (a0 :: a1 :: some (.int x) :: ls) st σ = ev 129 66 (a0 :: a1 :: some (.int x) :: ls) (.int x :: st) σ := e_iload1 k129_65 rfl
theorem k129_66 : cod 129 66 = some (.invokevirtual 115, 3, 62, 2, 0, 6) := rfl
theorem e129_66 (t : Nat) (x0 : Int32) (x1 : Int32) (ls : mL) (st : List Value) (σ : mS) (hm : mCat st ≤ 8) : ev 129 66 ls (.int x1 :: .int x0 :: .ref t :: st) σ = isC (σ.1 t) 6 ((evM 62 [.ref t, .int x0, .int x1] σ).bind fun z => ev 129 69 ls (z.1.toList ++ st) z.2) := e_callVK k129_66 (by decide) rfl ⟨hm, Nat.le_of_ble_eq_true rfl⟩
theorem k129_69 : cod 129 69 = some (.imul, 1, 0, 0, 0, 0) := rfl
theorem e129_69 (x y : Int32) (ls : mL) (st : List Value) (σ : mS) : ev 129 69 ls (.int y :: .int x :: st) σ = ev 129 70 ls (.int (x * y) :: st) σ := e_imul k129_69
theorem k129_70 : cod 129 70 = some (.istore 6, 2, 0, 0, 0, 0) := rfl
theorem e129_70i (a0 a1 a2 a3 a4 : Option Value) (y : Int32) (o : Option Value) (x : Int32) (ls : mL) (st : List Value) (σ : mS) : ev 129 70 (a0 :: a1 :: a2 :: a3 :: a4 :: some (.int y) :: o :: ls) (.int x :: st) σ = ev 129 72 (a0 :: a1 :: a2 :: a3 :: a4 :: some (.int y) :: some (.int x) :: ls) st σ := e_istore0 k129_70 (Nat.le_add_left 7 ls.length)
theorem e129_70n (a0 a1 a2 a3 a4 : Option Value) (o : Option Value) (x : Int32) (ls : mL) (st : List Value) (σ : mS) : ev 129 70 (a0 :: a1 :: a2 :: a3 :: a4 :: none :: o :: ls) (.int x :: st) σ = ev 129 72 (a0 :: a1 :: a2 :: a3 :: a4 :: none :: some (.int x) :: ls) st σ := e_istore0 k129_70 (Nat.le_add_left 7 ls.length)
theorem e129_70r (a0 a1 a2 a3 a4 : Option Value) (y : Nat) (o : Option Value) (x : Int32) (ls : mL) (st : List Value) (σ : mS) : ev 129 70 (a0 :: a1 :: a2 :: a3 :: a4 :: some (.ref y) :: o :: ls) (.int x :: st) σ = ev 129 72 (a0 :: a1 :: a2 :: a3 :: a4 :: some (.ref y) :: some (.int x) :: ls) st σ := e_istore0 k129_70 (Nat.le_add_left 7 ls.length)
theorem k129_72 : cod 129 72 = some (.iload 5, 2, 0, 0, 0, 0) := rfl
theorem e129_72 (a0 a1 a2 a3 a4 : Option Value) (x : Int32) (ls : mL) (st : List Value) (σ : mS) : ev 129 72 (a0 :: a1 :: a2 :: a3 :: a4 :: some (.int x) :: ls) st σ = ev 129 74 (a0 :: a1 :: a2 :: a3 :: a4 :: some (.int x) :: ls) (.int x :: st) σ := e_iload0 k129_72 rfl
theorem k129_74 : cod 129 74 = some (.iload 6, 2, 0, 0, 0, 0) := rfl
theorem e129_74 (a0 a1 a2 a3 a4 a5 : Option Value) (x : Int32) (ls : mL) (st : List Value) (σ : mS) : ev 129 74 (a0 :: a1 :: a2 :: a3 :: a4 :: a5 :: some (.int x) :: ls) st σ = ev 129 76 (a0 :: a1 :: a2 :: a3 :: a4 :: a5 :: some (.int x) :: ls) (.int x :: st) σ := e_iload0 k129_74 rfl
theorem k129_76 : cod 129 76 = some (.if_icmp .eq (16), 3, 92, 0, 0, 0) := rfl
theorem e129_76 (x y : Int32) (ls : mL) (st : List Value) (σ : mS) : ev 129 76 ls (.int y :: .int x :: st) σ = if x = y then ev 129 92 ls st σ else ev 129 79 ls st σ := e_ic_eq k129_76
theorem k129_79 : cod 129 79 = some (.iload 5, 2, 0, 0, 0, 0) := rfl
theorem e129_79 (a0 a1 a2 a3 a4 : Option Value) (x : Int32) (ls : mL) (st : List Value) (σ : mS) : ev 129 79 (a0 :: a1 :: a2 :: a3 :: a4 :: some (.int x) :: ls) st σ = ev 129 81 (a0 :: a1 :: a2 :: a3 :: a4 :: some (.int x) :: ls) (.int x :: st) σ := e_iload0 k129_79 rfl
theorem k129_81 : cod 129 81 = some (.iload 6, 2, 0, 0, 0, 0) := rfl
theorem e129_81 (a0 a1 a2 a3 a4 a5 : Option Value) (x : Int32) (ls : mL) (st : List Value) (σ : mS) : ev 129 81 (a0 :: a1 :: a2 :: a3 :: a4 :: a5 :: some (.int x) :: ls) st σ = ev 129 83 (a0 :: a1 :: a2 :: a3 :: a4 :: a5 :: some (.int x) :: ls) (.int x :: st) σ := e_iload0 k129_81 rfl
theorem k129_83 : cod 129 83 = some (.if_icmp .le (7), 3, 90, 0, 0, 0) := rfl
theorem e129_83 (x y : Int32) (ls : mL) (st : List Value) (σ : mS) : ev 129 83 ls (.int y :: .int x :: st) σ = if x ≤ y then ev 129 90 ls st σ else ev 129 86 ls st σ := e_ic_le k129_83
theorem k129_86 : cod 129 86 = some (.iconst 1, 1, 0, 0, 0, 0) := rfl
theorem e129_86 (ls : mL) (st : List Value) (σ : mS) : ev 129 86 ls st σ = ev 129 87 ls (.int 1 :: st) σ := e_iconst 1 k129_86 (by decide)
theorem k129_87 : cod 129 87 = some (.goto (4), 3, 91, 0, 0, 0) := rfl
theorem e129_87 (ls : mL) (st : List Value) (σ : mS) : ev 129 87 ls st σ = ev 129 91 ls st σ := e_goto k129_87
theorem k129_90 : cod 129 90 = some (.iconst 0, 1, 0, 0, 0, 0) := rfl
theorem e129_90 (ls : mL) (st : List Value) (σ : mS) : ev 129 90 ls st σ = ev 129 91 ls (.int 0 :: st) σ := e_iconst 0 k129_90 (by decide)
theorem k129_91 : cod 129 91 = some (.ireturn, 1, 0, 0, 0, 0) := rfl
theorem e129_91 (x : Int32) (ls : mL) (σ : mS) : ev 129 91 ls [.int x] σ = if x = 0 ∨ x = 1 then some (some (.int x), σ) else none := e_zret k129_91 rfl
theorem e129_91b0 (ls : mL) (σ : mS) : ev 129 91 ls [.int 0] σ = some (some (.int 0), σ) := (e_zret k129_91 rfl).trans (if_pos (Or.inl rfl))
theorem e129_91b1 (ls : mL) (σ : mS) : ev 129 91 ls [.int 1] σ = some (some (.int 1), σ) := (e_zret k129_91 rfl).trans (if_pos (Or.inr rfl))
theorem k129_92 : cod 129 92 = some (.iinc 4 (1), 3, 0, 0, 0, 0) := rfl
theorem e129_92i (a0 a1 a2 : Option Value) (y : Int32) (x : Int32) (ls : mL) (st : List Value) (σ : mS) : ev 129 92 (a0 :: a1 :: a2 :: some (.int y) :: some (.int x) :: ls) st σ = ev 129 95 (a0 :: a1 :: a2 :: some (.int y) :: some (.int (x + 1)) :: ls) st σ := e_iinc 1 k129_92 (by decide) rfl
theorem e129_92n (a0 a1 a2 : Option Value) (x : Int32) (ls : mL) (st : List Value) (σ : mS) : ev 129 92 (a0 :: a1 :: a2 :: none :: some (.int x) :: ls) st σ = ev 129 95 (a0 :: a1 :: a2 :: none :: some (.int (x + 1)) :: ls) st σ := e_iinc 1 k129_92 (by decide) rfl
theorem e129_92r (a0 a1 a2 : Option Value) (y : Nat) (x : Int32) (ls : mL) (st : List Value) (σ : mS) : ev 129 92 (a0 :: a1 :: a2 :: some (.ref y) :: some (.int x) :: ls) st σ = ev 129 95 (a0 :: a1 :: a2 :: some (.ref y) :: some (.int (x + 1)) :: ls) st σ := e_iinc 1 k129_92 (by decide) rfl
theorem k129_95 : cod 129 95 = some (.goto (-92), 3, 3, 0, 0, 0) := rfl
theorem e129_95 (ls : mL) (st : List Value) (σ : mS) : ev 129 95 ls st σ = ev 129 3 ls st σ := e_goto k129_95
theorem k129_98 : cod 129 98 = some (.iconst 0, 1, 0, 0, 0, 0) := rfl
theorem e129_98 (ls : mL) (st : List Value) (σ : mS) : ev 129 98 ls st σ = ev 129 99 ls (.int 0 :: st) σ := e_iconst 0 k129_98 (by decide)
theorem k129_99 : cod 129 99 = some (.ireturn, 1, 0, 0, 0, 0) := rfl
theorem e129_99 (x : Int32) (ls : mL) (σ : mS) : ev 129 99 ls [.int x] σ = if x = 0 ∨ x = 1 then some (some (.int x), σ) else none := e_zret k129_99 rfl
theorem e129_99b0 (ls : mL) (σ : mS) : ev 129 99 ls [.int 0] σ = some (some (.int 0), σ) := (e_zret k129_99 rfl).trans (if_pos (Or.inl rfl))
theorem e129_99b1 (ls : mL) (σ : mS) : ev 129 99 ls [.int 1] σ = some (some (.int 1), σ) := (e_zret k129_99 rfl).trans (if_pos (Or.inr rfl))
theorem m129 (t : Nat) (x0 : Int32) (x1 : Int32) (x2 : Int32) (σ : mS) : evM 129 [.ref t, .int x0, .int x1, .int x2] σ = ev 129 0 [some (.ref t), some (.int x0), some (.int x1), some (.int x2), none, none, none] [] σ := rfl
theorem k130_0 : cod 130 0 = some (.aload_n 0, 1, 0, 0, 0, 0) := rfl
theorem e130_0 (x : Nat) (ls : mL) (st : List Value) (σ : mS) : ev 130 0 (some (.ref x) :: ls) st σ = ev 130 1 (some (.ref x) :: ls) (.ref x :: st) σ := e_aload1 k130_0 rfl
theorem k130_1 : cod 130 1 = some (.getfield 36, 3, 7, 4, 0, 3) := rfl
theorem e130_1 (t : Nat) (ls : mL) (st : List Value) (σ : mS) : ev 130 1 ls (.ref t :: st) σ = gfK (σ.1 t) 7 4 (fun v => ev 130 4 ls (v :: st) σ) := e_getf k130_1
theorem k130_4 : cod 130 4 = some (.getfield 151, 3, 0, 0, 1, 3) := rfl
theorem e130_4 (t : Nat) (ls : mL) (st : List Value) (σ : mS) : ev 130 4 ls (.ref t :: st) σ = gfK (σ.1 t) 0 0 (fun v => ev 130 7 ls (v :: st) σ) := e_getf k130_4
theorem k130_7 : cod 130 7 = some (.iload_n 1, 1, 0, 0, 0, 0) := rfl
theorem e130_7 (a0 : Option Value) (x : Int32) (ls : mL) (st : List Value) (σ : mS) : ev 130 7 (a0 :: some (.int x) :: ls) st σ = ev 130 8 (a0 :: some (.int x) :: ls) (.int x :: st) σ := e_iload1 k130_7 rfl
theorem k130_8 : cod 130 8 = some (.invokevirtual 155, 3, 37, 1, 0, 3) := rfl
theorem e130_8 (t : Nat) (x0 : Int32) (ls : mL) (st : List Value) (σ : mS) (hm : mCat st ≤ 8) : ev 130 8 ls (.int x0 :: .ref t :: st) σ = isC (σ.1 t) 3 ((evM 37 [.ref t, .int x0] σ).bind fun z => ev 130 11 ls (z.1.toList ++ st) z.2) := e_callVK k130_8 (by decide) rfl ⟨hm, Nat.le_of_ble_eq_true rfl⟩
theorem k130_11 : cod 130 11 = some (.ifCond .eq (22), 3, 33, 0, 0, 0) := rfl
theorem e130_11 (x : Int32) (ls : mL) (st : List Value) (σ : mS) : ev 130 11 ls (.int x :: st) σ = if x = 0 then ev 130 33 ls st σ else ev 130 14 ls st σ := e_if_eq k130_11
theorem k130_14 : cod 130 14 = some (.iload_n 1, 1, 0, 0, 0, 0) := rfl
theorem e130_14 (a0 : Option Value) (x : Int32) (ls : mL) (st : List Value) (σ : mS) : ev 130 14 (a0 :: some (.int x) :: ls) st σ = ev 130 15 (a0 :: some (.int x) :: ls) (.int x :: st) σ := e_iload1 k130_14 rfl
theorem k130_15 : cod 130 15 = some (.iconst 0, 1, 0, 0, 0, 0) := rfl
theorem e130_15 (ls : mL) (st : List Value) (σ : mS) : ev 130 15 ls st σ = ev 130 16 ls (.int 0 :: st) σ := e_iconst 0 k130_15 (by decide)
theorem k130_16 : cod 130 16 = some (.bipush (7), 2, 0, 0, 0, 0) := rfl
theorem e130_16 (ls : mL) (st : List Value) (σ : mS) : ev 130 16 ls st σ = ev 130 18 ls (.int 7 :: st) σ := e_bipush 7 k130_16 (by decide)
theorem k130_18 : cod 130 18 = some (.invokestatic 78, 3, 87, 3, 0, 0) := rfl
theorem e130_18 (x0 : Int32) (x1 : Int32) (x2 : Int32) (ls : mL) (st : List Value) (σ : mS) (hm : mCat st ≤ 8) : ev 130 18 ls (.int x2 :: .int x1 :: .int x0 :: st) σ = (evM 87 [.int x0, .int x1, .int x2] σ).bind fun z => ev 130 21 ls (z.1.toList ++ st) z.2 := e_callS k130_18 (by decide) rfl ⟨hm, Nat.le_of_ble_eq_true rfl⟩
theorem k130_21 : cod 130 21 = some (.ifCond .eq (12), 3, 33, 0, 0, 0) := rfl
theorem e130_21 (x : Int32) (ls : mL) (st : List Value) (σ : mS) : ev 130 21 ls (.int x :: st) σ = if x = 0 then ev 130 33 ls st σ else ev 130 24 ls st σ := e_if_eq k130_21
theorem k130_24 : cod 130 24 = some (.aload_n 0, 1, 0, 0, 0, 0) := rfl
theorem e130_24 (x : Nat) (ls : mL) (st : List Value) (σ : mS) : ev 130 24 (some (.ref x) :: ls) st σ = ev 130 25 (some (.ref x) :: ls) (.ref x :: st) σ := e_aload1 k130_24 rfl
theorem k130_25 : cod 130 25 = some (.getfield 53, 3, 7, 9, 0, 3) := rfl
theorem e130_25 (t : Nat) (ls : mL) (st : List Value) (σ : mS) : ev 130 25 ls (.ref t :: st) σ = gfK (σ.1 t) 7 9 (fun v => ev 130 28 ls (v :: st) σ) := e_getf k130_25
theorem k130_28 : cod 130 28 = some (.iload_n 1, 1, 0, 0, 0, 0) := rfl
theorem e130_28 (a0 : Option Value) (x : Int32) (ls : mL) (st : List Value) (σ : mS) : ev 130 28 (a0 :: some (.int x) :: ls) st σ = ev 130 29 (a0 :: some (.int x) :: ls) (.int x :: st) σ := e_iload1 k130_28 rfl
theorem k130_29 : cod 130 29 = some (.iaload, 1, 0, 0, 0, 0) := rfl
theorem e130_29 (j : Int32) (t : Nat) (ls : mL) (st : List Value) (σ : mS) : ev 130 29 ls (.int j :: .ref t :: st) σ = alK (σ.1 t) 0 j (fun v => ev 130 30 ls (.int v :: st) σ) := e_iald k130_29
theorem k130_30 : cod 130 30 = some (.goto (4), 3, 34, 0, 0, 0) := rfl
theorem e130_30 (ls : mL) (st : List Value) (σ : mS) : ev 130 30 ls st σ = ev 130 34 ls st σ := e_goto k130_30
theorem k130_33 : cod 130 33 = some (.iconst 0, 1, 0, 0, 0, 0) := rfl
theorem e130_33 (ls : mL) (st : List Value) (σ : mS) : ev 130 33 ls st σ = ev 130 34 ls (.int 0 :: st) σ := e_iconst 0 k130_33 (by decide)
theorem k130_34 : cod 130 34 = some (.ireturn, 1, 0, 0, 0, 0) := rfl
theorem e130_34 (x : Int32) (ls : mL) (σ : mS) : ev 130 34 ls [.int x] σ = some (some (.int x), σ) := e_iret k130_34 rfl
theorem m130 (t : Nat) (x0 : Int32) (σ : mS) : evM 130 [.ref t, .int x0] σ = ev 130 0 [some (.ref t), some (.int x0)] [] σ := rfl
theorem k131_0 : cod 131 0 = some (.iconst 0, 1, 0, 0, 0, 0) := rfl
theorem e131_0 (ls : mL) (st : List Value) (σ : mS) : ev 131 0 ls st σ = ev 131 1 ls (.int 0 :: st) σ := e_iconst 0 k131_0 (by decide)
theorem k131_1 : cod 131 1 = some (.istore_n 1, 1, 0, 0, 0, 0) := rfl
theorem e131_1i (y : Int32) (o : Option Value) (x : Int32) (ls : mL) (st : List Value) (σ : mS) : ev 131 1 (some (.int y) :: o :: ls) (.int x :: st) σ = ev 131 2 (some (.int y) :: some (.int x) :: ls) st σ := e_istore1 k131_1 (Nat.le_add_left 2 ls.length)
theorem e131_1n (o : Option Value) (x : Int32) (ls : mL) (st : List Value) (σ : mS) : ev 131 1 (none :: o :: ls) (.int x :: st) σ = ev 131 2 (none :: some (.int x) :: ls) st σ := e_istore1 k131_1 (Nat.le_add_left 2 ls.length)
theorem e131_1r (y : Nat) (o : Option Value) (x : Int32) (ls : mL) (st : List Value) (σ : mS) : ev 131 1 (some (.ref y) :: o :: ls) (.int x :: st) σ = ev 131 2 (some (.ref y) :: some (.int x) :: ls) st σ := e_istore1 k131_1 (Nat.le_add_left 2 ls.length)
theorem k131_2 : cod 131 2 = some (.iload_n 1, 1, 0, 0, 0, 0) := rfl
theorem e131_2 (a0 : Option Value) (x : Int32) (ls : mL) (st : List Value) (σ : mS) : ev 131 2 (a0 :: some (.int x) :: ls) st σ = ev 131 3 (a0 :: some (.int x) :: ls) (.int x :: st) σ := e_iload1 k131_2 rfl
theorem k131_3 : cod 131 3 = some (.bipush (8), 2, 0, 0, 0, 0) := rfl
theorem e131_3 (ls : mL) (st : List Value) (σ : mS) : ev 131 3 ls st σ = ev 131 5 ls (.int 8 :: st) σ := e_bipush 8 k131_3 (by decide)
theorem k131_5 : cod 131 5 = some (.if_icmp .ge (62), 3, 67, 0, 0, 0) := rfl
theorem e131_5 (x y : Int32) (ls : mL) (st : List Value) (σ : mS) : ev 131 5 ls (.int y :: .int x :: st) σ = if y ≤ x then ev 131 67 ls st σ else ev 131 8 ls st σ := e_ic_ge k131_5
theorem k131_8 : cod 131 8 = some (.iload_n 1, 1, 0, 0, 0, 0) := rfl
theorem e131_8 (a0 : Option Value) (x : Int32) (ls : mL) (st : List Value) (σ : mS) : ev 131 8 (a0 :: some (.int x) :: ls) st σ = ev 131 9 (a0 :: some (.int x) :: ls) (.int x :: st) σ := e_iload1 k131_8 rfl
theorem k131_9 : cod 131 9 = some (.iconst 1, 1, 0, 0, 0, 0) := rfl
theorem e131_9 (ls : mL) (st : List Value) (σ : mS) : ev 131 9 ls st σ = ev 131 10 ls (.int 1 :: st) σ := e_iconst 1 k131_9 (by decide)
theorem k131_10 : cod 131 10 = some (.iadd, 1, 0, 0, 0, 0) := rfl
theorem e131_10 (x y : Int32) (ls : mL) (st : List Value) (σ : mS) : ev 131 10 ls (.int y :: .int x :: st) σ = ev 131 11 ls (.int (x + y) :: st) σ := e_iadd k131_10
theorem k131_11 : cod 131 11 = some (.istore_n 2, 1, 0, 0, 0, 0) := rfl
theorem e131_11i (a0 : Option Value) (y : Int32) (o : Option Value) (x : Int32) (ls : mL) (st : List Value) (σ : mS) : ev 131 11 (a0 :: some (.int y) :: o :: ls) (.int x :: st) σ = ev 131 12 (a0 :: some (.int y) :: some (.int x) :: ls) st σ := e_istore1 k131_11 (Nat.le_add_left 3 ls.length)
theorem e131_11n (a0 : Option Value) (o : Option Value) (x : Int32) (ls : mL) (st : List Value) (σ : mS) : ev 131 11 (a0 :: none :: o :: ls) (.int x :: st) σ = ev 131 12 (a0 :: none :: some (.int x) :: ls) st σ := e_istore1 k131_11 (Nat.le_add_left 3 ls.length)
theorem e131_11r (a0 : Option Value) (y : Nat) (o : Option Value) (x : Int32) (ls : mL) (st : List Value) (σ : mS) : ev 131 11 (a0 :: some (.ref y) :: o :: ls) (.int x :: st) σ = ev 131 12 (a0 :: some (.ref y) :: some (.int x) :: ls) st σ := e_istore1 k131_11 (Nat.le_add_left 3 ls.length)
theorem k131_12 : cod 131 12 = some (.iload_n 2, 1, 0, 0, 0, 0) := rfl
theorem e131_12 (a0 a1 : Option Value) (x : Int32) (ls : mL) (st : List Value) (σ : mS) : ev 131 12 (a0 :: a1 :: some (.int x) :: ls) st σ = ev 131 13 (a0 :: a1 :: some (.int x) :: ls) (.int x :: st) σ := e_iload1 k131_12 rfl
theorem k131_13 : cod 131 13 = some (.bipush (8), 2, 0, 0, 0, 0) := rfl
theorem e131_13 (ls : mL) (st : List Value) (σ : mS) : ev 131 13 ls st σ = ev 131 15 ls (.int 8 :: st) σ := e_bipush 8 k131_13 (by decide)
theorem k131_15 : cod 131 15 = some (.if_icmp .ge (46), 3, 61, 0, 0, 0) := rfl
theorem e131_15 (x y : Int32) (ls : mL) (st : List Value) (σ : mS) : ev 131 15 ls (.int y :: .int x :: st) σ = if y ≤ x then ev 131 61 ls st σ else ev 131 18 ls st σ := e_ic_ge k131_15
theorem k131_18 : cod 131 18 = some (.aload_n 0, 1, 0, 0, 0, 0) := rfl
theorem e131_18 (x : Nat) (ls : mL) (st : List Value) (σ : mS) : ev 131 18 (some (.ref x) :: ls) st σ = ev 131 19 (some (.ref x) :: ls) (.ref x :: st) σ := e_aload1 k131_18 rfl
theorem k131_19 : cod 131 19 = some (.iload_n 1, 1, 0, 0, 0, 0) := rfl
theorem e131_19 (a0 : Option Value) (x : Int32) (ls : mL) (st : List Value) (σ : mS) : ev 131 19 (a0 :: some (.int x) :: ls) st σ = ev 131 20 (a0 :: some (.int x) :: ls) (.int x :: st) σ := e_iload1 k131_19 rfl
theorem k131_20 : cod 131 20 = some (.invokevirtual 263, 3, 130, 1, 0, 7) := rfl
theorem e131_20 (t : Nat) (x0 : Int32) (ls : mL) (st : List Value) (σ : mS) (hm : mCat st ≤ 8) : ev 131 20 ls (.int x0 :: .ref t :: st) σ = isC (σ.1 t) 7 ((evM 130 [.ref t, .int x0] σ).bind fun z => ev 131 23 ls (z.1.toList ++ st) z.2) := e_callVK k131_20 (by decide) rfl ⟨hm, Nat.le_of_ble_eq_true rfl⟩
theorem k131_23 : cod 131 23 = some (.ifCond .eq (32), 3, 55, 0, 0, 0) := rfl
theorem e131_23 (x : Int32) (ls : mL) (st : List Value) (σ : mS) : ev 131 23 ls (.int x :: st) σ = if x = 0 then ev 131 55 ls st σ else ev 131 26 ls st σ := e_if_eq k131_23
theorem k131_26 : cod 131 26 = some (.aload_n 0, 1, 0, 0, 0, 0) := rfl
theorem e131_26 (x : Nat) (ls : mL) (st : List Value) (σ : mS) : ev 131 26 (some (.ref x) :: ls) st σ = ev 131 27 (some (.ref x) :: ls) (.ref x :: st) σ := e_aload1 k131_26 rfl
theorem k131_27 : cod 131 27 = some (.iload_n 2, 1, 0, 0, 0, 0) := rfl
theorem e131_27 (a0 a1 : Option Value) (x : Int32) (ls : mL) (st : List Value) (σ : mS) : ev 131 27 (a0 :: a1 :: some (.int x) :: ls) st σ = ev 131 28 (a0 :: a1 :: some (.int x) :: ls) (.int x :: st) σ := e_iload1 k131_27 rfl
theorem k131_28 : cod 131 28 = some (.invokevirtual 263, 3, 130, 1, 0, 7) := rfl
theorem e131_28 (t : Nat) (x0 : Int32) (ls : mL) (st : List Value) (σ : mS) (hm : mCat st ≤ 8) : ev 131 28 ls (.int x0 :: .ref t :: st) σ = isC (σ.1 t) 7 ((evM 130 [.ref t, .int x0] σ).bind fun z => ev 131 31 ls (z.1.toList ++ st) z.2) := e_callVK k131_28 (by decide) rfl ⟨hm, Nat.le_of_ble_eq_true rfl⟩
theorem k131_31 : cod 131 31 = some (.ifCond .eq (24), 3, 55, 0, 0, 0) := rfl
theorem e131_31 (x : Int32) (ls : mL) (st : List Value) (σ : mS) : ev 131 31 ls (.int x :: st) σ = if x = 0 then ev 131 55 ls st σ else ev 131 34 ls st σ := e_if_eq k131_31
theorem k131_34 : cod 131 34 = some (.aload_n 0, 1, 0, 0, 0, 0) := rfl
theorem e131_34 (x : Nat) (ls : mL) (st : List Value) (σ : mS) : ev 131 34 (some (.ref x) :: ls) st σ = ev 131 35 (some (.ref x) :: ls) (.ref x :: st) σ := e_aload1 k131_34 rfl
theorem k131_35 : cod 131 35 = some (.iload_n 1, 1, 0, 0, 0, 0) := rfl
theorem e131_35 (a0 : Option Value) (x : Int32) (ls : mL) (st : List Value) (σ : mS) : ev 131 35 (a0 :: some (.int x) :: ls) st σ = ev 131 36 (a0 :: some (.int x) :: ls) (.int x :: st) σ := e_iload1 k131_35 rfl
theorem k131_36 : cod 131 36 = some (.invokevirtual 263, 3, 130, 1, 0, 7) := rfl
theorem e131_36 (t : Nat) (x0 : Int32) (ls : mL) (st : List Value) (σ : mS) (hm : mCat st ≤ 8) : ev 131 36 ls (.int x0 :: .ref t :: st) σ = isC (σ.1 t) 7 ((evM 130 [.ref t, .int x0] σ).bind fun z => ev 131 39 ls (z.1.toList ++ st) z.2) := e_callVK k131_36 (by decide) rfl ⟨hm, Nat.le_of_ble_eq_true rfl⟩
theorem k131_39 : cod 131 39 = some (.aload_n 0, 1, 0, 0, 0, 0) := rfl
theorem e131_39 (x : Nat) (ls : mL) (st : List Value) (σ : mS) : ev 131 39 (some (.ref x) :: ls) st σ = ev 131 40 (some (.ref x) :: ls) (.ref x :: st) σ := e_aload1 k131_39 rfl
theorem k131_40 : cod 131 40 = some (.iload_n 2, 1, 0, 0, 0, 0) := rfl
theorem e131_40 (a0 a1 : Option Value) (x : Int32) (ls : mL) (st : List Value) (σ : mS) : ev 131 40 (a0 :: a1 :: some (.int x) :: ls) st σ = ev 131 41 (a0 :: a1 :: some (.int x) :: ls) (.int x :: st) σ := e_iload1 k131_40 rfl
theorem k131_41 : cod 131 41 = some (.invokevirtual 263, 3, 130, 1, 0, 7) := rfl
theorem e131_41 (t : Nat) (x0 : Int32) (ls : mL) (st : List Value) (σ : mS) (hm : mCat st ≤ 8) : ev 131 41 ls (.int x0 :: .ref t :: st) σ = isC (σ.1 t) 7 ((evM 130 [.ref t, .int x0] σ).bind fun z => ev 131 44 ls (z.1.toList ++ st) z.2) := e_callVK k131_41 (by decide) rfl ⟨hm, Nat.le_of_ble_eq_true rfl⟩
theorem k131_44 : cod 131 44 = some (.iand, 1, 0, 0, 0, 0) := rfl
theorem e131_44 (x y : Int32) (ls : mL) (st : List Value) (σ : mS) : ev 131 44 ls (.int y :: .int x :: st) σ = ev 131 45 ls (.int (x &&& y) :: st) σ := e_iand k131_44
theorem k131_45 : cod 131 45 = some (.ifCond .ne (10), 3, 55, 0, 0, 0) := rfl
theorem e131_45 (x : Int32) (ls : mL) (st : List Value) (σ : mS) : ev 131 45 ls (.int x :: st) σ = if x = 0 then ev 131 48 ls st σ else ev 131 55 ls st σ := e_if_ne k131_45
theorem k131_48 : cod 131 48 = some (.bipush (8), 2, 0, 0, 0, 0) := rfl
theorem e131_48 (ls : mL) (st : List Value) (σ : mS) : ev 131 48 ls st σ = ev 131 50 ls (.int 8 :: st) σ := e_bipush 8 k131_48 (by decide)
theorem k131_50 : cod 131 50 = some (.iload_n 1, 1, 0, 0, 0, 0) := rfl
theorem e131_50 (a0 : Option Value) (x : Int32) (ls : mL) (st : List Value) (σ : mS) : ev 131 50 (a0 :: some (.int x) :: ls) st σ = ev 131 51 (a0 :: some (.int x) :: ls) (.int x :: st) σ := e_iload1 k131_50 rfl
theorem k131_51 : cod 131 51 = some (.imul, 1, 0, 0, 0, 0) := rfl
theorem e131_51 (x y : Int32) (ls : mL) (st : List Value) (σ : mS) : ev 131 51 ls (.int y :: .int x :: st) σ = ev 131 52 ls (.int (x * y) :: st) σ := e_imul k131_51
theorem k131_52 : cod 131 52 = some (.iload_n 2, 1, 0, 0, 0, 0) := rfl
theorem e131_52 (a0 a1 : Option Value) (x : Int32) (ls : mL) (st : List Value) (σ : mS) : ev 131 52 (a0 :: a1 :: some (.int x) :: ls) st σ = ev 131 53 (a0 :: a1 :: some (.int x) :: ls) (.int x :: st) σ := e_iload1 k131_52 rfl
theorem k131_53 : cod 131 53 = some (.iadd, 1, 0, 0, 0, 0) := rfl
theorem e131_53 (x y : Int32) (ls : mL) (st : List Value) (σ : mS) : ev 131 53 ls (.int y :: .int x :: st) σ = ev 131 54 ls (.int (x + y) :: st) σ := e_iadd k131_53
theorem k131_54 : cod 131 54 = some (.ireturn, 1, 0, 0, 0, 0) := rfl
theorem e131_54 (x : Int32) (ls : mL) (σ : mS) : ev 131 54 ls [.int x] σ = some (some (.int x), σ) := e_iret k131_54 rfl
theorem k131_55 : cod 131 55 = some (.iinc 2 (1), 3, 0, 0, 0, 0) := rfl
theorem e131_55i (a0 : Option Value) (y : Int32) (x : Int32) (ls : mL) (st : List Value) (σ : mS) : ev 131 55 (a0 :: some (.int y) :: some (.int x) :: ls) st σ = ev 131 58 (a0 :: some (.int y) :: some (.int (x + 1)) :: ls) st σ := e_iinc 1 k131_55 (by decide) rfl
theorem e131_55n (a0 : Option Value) (x : Int32) (ls : mL) (st : List Value) (σ : mS) : ev 131 55 (a0 :: none :: some (.int x) :: ls) st σ = ev 131 58 (a0 :: none :: some (.int (x + 1)) :: ls) st σ := e_iinc 1 k131_55 (by decide) rfl
theorem e131_55r (a0 : Option Value) (y : Nat) (x : Int32) (ls : mL) (st : List Value) (σ : mS) : ev 131 55 (a0 :: some (.ref y) :: some (.int x) :: ls) st σ = ev 131 58 (a0 :: some (.ref y) :: some (.int (x + 1)) :: ls) st σ := e_iinc 1 k131_55 (by decide) rfl
theorem k131_58 : cod 131 58 = some (.goto (-46), 3, 12, 0, 0, 0) := rfl
theorem e131_58 (ls : mL) (st : List Value) (σ : mS) : ev 131 58 ls st σ = ev 131 12 ls st σ := e_goto k131_58
theorem k131_61 : cod 131 61 = some (.iinc 1 (1), 3, 0, 0, 0, 0) := rfl
theorem e131_61i (y : Int32) (x : Int32) (ls : mL) (st : List Value) (σ : mS) : ev 131 61 (some (.int y) :: some (.int x) :: ls) st σ = ev 131 64 (some (.int y) :: some (.int (x + 1)) :: ls) st σ := e_iinc 1 k131_61 (by decide) rfl
theorem e131_61n (x : Int32) (ls : mL) (st : List Value) (σ : mS) : ev 131 61 (none :: some (.int x) :: ls) st σ = ev 131 64 (none :: some (.int (x + 1)) :: ls) st σ := e_iinc 1 k131_61 (by decide) rfl
theorem e131_61r (y : Nat) (x : Int32) (ls : mL) (st : List Value) (σ : mS) : ev 131 61 (some (.ref y) :: some (.int x) :: ls) st σ = ev 131 64 (some (.ref y) :: some (.int (x + 1)) :: ls) st σ := e_iinc 1 k131_61 (by decide) rfl
theorem k131_64 : cod 131 64 = some (.goto (-62), 3, 2, 0, 0, 0) := rfl
theorem e131_64 (ls : mL) (st : List Value) (σ : mS) : ev 131 64 ls st σ = ev 131 2 ls st σ := e_goto k131_64
theorem k131_67 : cod 131 67 = some (.bipush (-9), 2, 0, 0, 0, 0) := rfl
theorem e131_67 (ls : mL) (st : List Value) (σ : mS) : ev 131 67 ls st σ = ev 131 69 ls (.int (-9) :: st) σ := e_bipush (-9) k131_67 (by decide)
theorem k131_69 : cod 131 69 = some (.ireturn, 1, 0, 0, 0, 0) := rfl
theorem e131_69 (x : Int32) (ls : mL) (σ : mS) : ev 131 69 ls [.int x] σ = some (some (.int x), σ) := e_iret k131_69 rfl
theorem m131 (t : Nat) (σ : mS) : evM 131 [.ref t] σ = ev 131 0 [some (.ref t), none, none] [] σ := rfl
theorem k132_0 : cod 132 0 = some (.aload_n 0, 1, 0, 0, 0, 0) := rfl
theorem e132_0 (x : Nat) (ls : mL) (st : List Value) (σ : mS) : ev 132 0 (some (.ref x) :: ls) st σ = ev 132 1 (some (.ref x) :: ls) (.ref x :: st) σ := e_aload1 k132_0 rfl
theorem k132_1 : cod 132 1 = some (.getfield 36, 3, 7, 4, 0, 3) := rfl
theorem e132_1 (t : Nat) (ls : mL) (st : List Value) (σ : mS) : ev 132 1 ls (.ref t :: st) σ = gfK (σ.1 t) 7 4 (fun v => ev 132 4 ls (v :: st) σ) := e_getf k132_1
theorem k132_4 : cod 132 4 = some (.getfield 174, 3, 0, 1, 1, 3) := rfl
theorem e132_4 (t : Nat) (ls : mL) (st : List Value) (σ : mS) : ev 132 4 ls (.ref t :: st) σ = gfK (σ.1 t) 0 1 (fun v => ev 132 7 ls (v :: st) σ) := e_getf k132_4
theorem k132_7 : cod 132 7 = some (.iload_n 1, 1, 0, 0, 0, 0) := rfl
theorem e132_7 (a0 : Option Value) (x : Int32) (ls : mL) (st : List Value) (σ : mS) : ev 132 7 (a0 :: some (.int x) :: ls) st σ = ev 132 8 (a0 :: some (.int x) :: ls) (.int x :: st) σ := e_iload1 k132_7 rfl
theorem k132_8 : cod 132 8 = some (.invokevirtual 155, 3, 37, 1, 0, 3) := rfl
theorem e132_8 (t : Nat) (x0 : Int32) (ls : mL) (st : List Value) (σ : mS) (hm : mCat st ≤ 8) : ev 132 8 ls (.int x0 :: .ref t :: st) σ = isC (σ.1 t) 3 ((evM 37 [.ref t, .int x0] σ).bind fun z => ev 132 11 ls (z.1.toList ++ st) z.2) := e_callVK k132_8 (by decide) rfl ⟨hm, Nat.le_of_ble_eq_true rfl⟩
theorem k132_11 : cod 132 11 = some (.ifCond .ne (5), 3, 16, 0, 0, 0) := rfl
theorem e132_11 (x : Int32) (ls : mL) (st : List Value) (σ : mS) : ev 132 11 ls (.int x :: st) σ = if x = 0 then ev 132 14 ls st σ else ev 132 16 ls st σ := e_if_ne k132_11
theorem k132_14 : cod 132 14 = some (.iconst (-1), 1, 0, 0, 0, 0) := rfl
theorem e132_14 (ls : mL) (st : List Value) (σ : mS) : ev 132 14 ls st σ = ev 132 15 ls (.int (-1) :: st) σ := e_iconst (-1) k132_14 (by decide)
theorem k132_15 : cod 132 15 = some (.ireturn, 1, 0, 0, 0, 0) := rfl
theorem e132_15 (x : Int32) (ls : mL) (σ : mS) : ev 132 15 ls [.int x] σ = some (some (.int x), σ) := e_iret k132_15 rfl
theorem k132_16 : cod 132 16 = some (.aload_n 0, 1, 0, 0, 0, 0) := rfl
theorem e132_16 (x : Nat) (ls : mL) (st : List Value) (σ : mS) : ev 132 16 (some (.ref x) :: ls) st σ = ev 132 17 (some (.ref x) :: ls) (.ref x :: st) σ := e_aload1 k132_16 rfl
theorem k132_17 : cod 132 17 = some (.getfield 36, 3, 7, 4, 0, 3) := rfl
theorem e132_17 (t : Nat) (ls : mL) (st : List Value) (σ : mS) : ev 132 17 ls (.ref t :: st) σ = gfK (σ.1 t) 7 4 (fun v => ev 132 20 ls (v :: st) σ) := e_getf k132_17
theorem k132_20 : cod 132 20 = some (.getfield 174, 3, 0, 1, 1, 3) := rfl
theorem e132_20 (t : Nat) (ls : mL) (st : List Value) (σ : mS) : ev 132 20 ls (.ref t :: st) σ = gfK (σ.1 t) 0 1 (fun v => ev 132 23 ls (v :: st) σ) := e_getf k132_20
theorem k132_23 : cod 132 23 = some (.iload_n 1, 1, 0, 0, 0, 0) := rfl
theorem e132_23 (a0 : Option Value) (x : Int32) (ls : mL) (st : List Value) (σ : mS) : ev 132 23 (a0 :: some (.int x) :: ls) st σ = ev 132 24 (a0 :: some (.int x) :: ls) (.int x :: st) σ := e_iload1 k132_23 rfl
theorem k132_24 : cod 132 24 = some (.iconst 4, 1, 0, 0, 0, 0) := rfl
theorem e132_24 (ls : mL) (st : List Value) (σ : mS) : ev 132 24 ls st σ = ev 132 25 ls (.int 4 :: st) σ := e_iconst 4 k132_24 (by decide)
theorem k132_25 : cod 132 25 = some (.invokevirtual 160, 3, 38, 2, 0, 3) := rfl
theorem e132_25 (t : Nat) (x0 : Int32) (x1 : Int32) (ls : mL) (st : List Value) (σ : mS) (hm : mCat st ≤ 8) : ev 132 25 ls (.int x1 :: .int x0 :: .ref t :: st) σ = isC (σ.1 t) 3 ((evM 38 [.ref t, .int x0, .int x1] σ).bind fun z => ev 132 28 ls (z.1.toList ++ st) z.2) := e_callVK k132_25 (by decide) rfl ⟨hm, Nat.le_of_ble_eq_true rfl⟩
theorem k132_28 : cod 132 28 = some (.istore_n 2, 1, 0, 0, 0, 0) := rfl
theorem e132_28i (a0 : Option Value) (y : Int32) (o : Option Value) (x : Int32) (ls : mL) (st : List Value) (σ : mS) : ev 132 28 (a0 :: some (.int y) :: o :: ls) (.int x :: st) σ = ev 132 29 (a0 :: some (.int y) :: some (.int x) :: ls) st σ := e_istore1 k132_28 (Nat.le_add_left 3 ls.length)
theorem e132_28n (a0 : Option Value) (o : Option Value) (x : Int32) (ls : mL) (st : List Value) (σ : mS) : ev 132 28 (a0 :: none :: o :: ls) (.int x :: st) σ = ev 132 29 (a0 :: none :: some (.int x) :: ls) st σ := e_istore1 k132_28 (Nat.le_add_left 3 ls.length)
theorem e132_28r (a0 : Option Value) (y : Nat) (o : Option Value) (x : Int32) (ls : mL) (st : List Value) (σ : mS) : ev 132 28 (a0 :: some (.ref y) :: o :: ls) (.int x :: st) σ = ev 132 29 (a0 :: some (.ref y) :: some (.int x) :: ls) st σ := e_istore1 k132_28 (Nat.le_add_left 3 ls.length)
theorem k132_29 : cod 132 29 = some (.iconst 0, 1, 0, 0, 0, 0) := rfl
theorem e132_29 (ls : mL) (st : List Value) (σ : mS) : ev 132 29 ls st σ = ev 132 30 ls (.int 0 :: st) σ := e_iconst 0 k132_29 (by decide)
theorem k132_30 : cod 132 30 = some (.istore_n 3, 1, 0, 0, 0, 0) := rfl
theorem e132_30i (a0 a1 : Option Value) (y : Int32) (o : Option Value) (x : Int32) (ls : mL) (st : List Value) (σ : mS) : ev 132 30 (a0 :: a1 :: some (.int y) :: o :: ls) (.int x :: st) σ = ev 132 31 (a0 :: a1 :: some (.int y) :: some (.int x) :: ls) st σ := e_istore1 k132_30 (Nat.le_add_left 4 ls.length)
theorem e132_30n (a0 a1 : Option Value) (o : Option Value) (x : Int32) (ls : mL) (st : List Value) (σ : mS) : ev 132 30 (a0 :: a1 :: none :: o :: ls) (.int x :: st) σ = ev 132 31 (a0 :: a1 :: none :: some (.int x) :: ls) st σ := e_istore1 k132_30 (Nat.le_add_left 4 ls.length)
theorem e132_30r (a0 a1 : Option Value) (y : Nat) (o : Option Value) (x : Int32) (ls : mL) (st : List Value) (σ : mS) : ev 132 30 (a0 :: a1 :: some (.ref y) :: o :: ls) (.int x :: st) σ = ev 132 31 (a0 :: a1 :: some (.ref y) :: some (.int x) :: ls) st σ := e_istore1 k132_30 (Nat.le_add_left 4 ls.length)
theorem k132_31 : cod 132 31 = some (.iload_n 3, 1, 0, 0, 0, 0) := rfl
theorem e132_31 (a0 a1 a2 : Option Value) (x : Int32) (ls : mL) (st : List Value) (σ : mS) : ev 132 31 (a0 :: a1 :: a2 :: some (.int x) :: ls) st σ = ev 132 32 (a0 :: a1 :: a2 :: some (.int x) :: ls) (.int x :: st) σ := e_iload1 k132_31 rfl
theorem k132_32 : cod 132 32 = some (.aload_n 0, 1, 0, 0, 0, 0) := rfl
theorem e132_32 (x : Nat) (ls : mL) (st : List Value) (σ : mS) : ev 132 32 (some (.ref x) :: ls) st σ = ev 132 33 (some (.ref x) :: ls) (.ref x :: st) σ := e_aload1 k132_32 rfl
theorem k132_33 : cod 132 33 = some (.getfield 36, 3, 7, 4, 0, 3) := rfl
theorem e132_33 (t : Nat) (ls : mL) (st : List Value) (σ : mS) : ev 132 33 ls (.ref t :: st) σ = gfK (σ.1 t) 7 4 (fun v => ev 132 36 ls (v :: st) σ) := e_getf k132_33
theorem k132_36 : cod 132 36 = some (.getfield 213, 3, 0, 3, 1, 3) := rfl
theorem e132_36 (t : Nat) (ls : mL) (st : List Value) (σ : mS) : ev 132 36 ls (.ref t :: st) σ = gfK (σ.1 t) 0 3 (fun v => ev 132 39 ls (v :: st) σ) := e_getf k132_36
theorem k132_39 : cod 132 39 = some (.getfield 243, 3, 3, 3, 1, 0) := rfl
theorem e132_39 (t : Nat) (ls : mL) (st : List Value) (σ : mS) : ev 132 39 ls (.ref t :: st) σ = gfK (σ.1 t) 3 3 (fun v => ev 132 42 ls (v :: st) σ) := e_getf k132_39
theorem k132_42 : cod 132 42 = some (.if_icmp .ge (81), 3, 123, 0, 0, 0) := rfl
theorem e132_42 (x y : Int32) (ls : mL) (st : List Value) (σ : mS) : ev 132 42 ls (.int y :: .int x :: st) σ = if y ≤ x then ev 132 123 ls st σ else ev 132 45 ls st σ := e_ic_ge k132_42
theorem k132_45 : cod 132 45 = some (.iload_n 3, 1, 0, 0, 0, 0) := rfl
theorem e132_45 (a0 a1 a2 : Option Value) (x : Int32) (ls : mL) (st : List Value) (σ : mS) : ev 132 45 (a0 :: a1 :: a2 :: some (.int x) :: ls) st σ = ev 132 46 (a0 :: a1 :: a2 :: some (.int x) :: ls) (.int x :: st) σ := e_iload1 k132_45 rfl
theorem k132_46 : cod 132 46 = some (.bipush (60), 2, 0, 0, 0, 0) := rfl
theorem e132_46 (ls : mL) (st : List Value) (σ : mS) : ev 132 46 ls st σ = ev 132 48 ls (.int 60 :: st) σ := e_bipush 60 k132_46 (by decide)
theorem k132_48 : cod 132 48 = some (.if_icmp .ge (75), 3, 123, 0, 0, 0) := rfl
theorem e132_48 (x y : Int32) (ls : mL) (st : List Value) (σ : mS) : ev 132 48 ls (.int y :: .int x :: st) σ = if y ≤ x then ev 132 123 ls st σ else ev 132 51 ls st σ := e_ic_ge k132_48
theorem k132_51 : cod 132 51 = some (.aload_n 0, 1, 0, 0, 0, 0) := rfl
theorem e132_51 (x : Nat) (ls : mL) (st : List Value) (σ : mS) : ev 132 51 (some (.ref x) :: ls) st σ = ev 132 52 (some (.ref x) :: ls) (.ref x :: st) σ := e_aload1 k132_51 rfl
theorem k132_52 : cod 132 52 = some (.getfield 36, 3, 7, 4, 0, 3) := rfl
theorem e132_52 (t : Nat) (ls : mL) (st : List Value) (σ : mS) : ev 132 52 ls (.ref t :: st) σ = gfK (σ.1 t) 7 4 (fun v => ev 132 55 ls (v :: st) σ) := e_getf k132_52
theorem k132_55 : cod 132 55 = some (.getfield 213, 3, 0, 3, 1, 3) := rfl
theorem e132_55 (t : Nat) (ls : mL) (st : List Value) (σ : mS) : ev 132 55 ls (.ref t :: st) σ = gfK (σ.1 t) 0 3 (fun v => ev 132 58 ls (v :: st) σ) := e_getf k132_55
theorem k132_58 : cod 132 58 = some (.iload_n 3, 1, 0, 0, 0, 0) := rfl
theorem e132_58 (a0 a1 a2 : Option Value) (x : Int32) (ls : mL) (st : List Value) (σ : mS) : ev 132 58 (a0 :: a1 :: a2 :: some (.int x) :: ls) st σ = ev 132 59 (a0 :: a1 :: a2 :: some (.int x) :: ls) (.int x :: st) σ := e_iload1 k132_58 rfl
theorem k132_59 : cod 132 59 = some (.iconst 1, 1, 0, 0, 0, 0) := rfl
theorem e132_59 (ls : mL) (st : List Value) (σ : mS) : ev 132 59 ls st σ = ev 132 60 ls (.int 1 :: st) σ := e_iconst 1 k132_59 (by decide)
theorem k132_60 : cod 132 60 = some (.invokevirtual 160, 3, 38, 2, 0, 3) := rfl
theorem e132_60 (t : Nat) (x0 : Int32) (x1 : Int32) (ls : mL) (st : List Value) (σ : mS) (hm : mCat st ≤ 8) : ev 132 60 ls (.int x1 :: .int x0 :: .ref t :: st) σ = isC (σ.1 t) 3 ((evM 38 [.ref t, .int x0, .int x1] σ).bind fun z => ev 132 63 ls (z.1.toList ++ st) z.2) := e_callVK k132_60 (by decide) rfl ⟨hm, Nat.le_of_ble_eq_true rfl⟩
theorem k132_63 : cod 132 63 = some (.iload_n 1, 1, 0, 0, 0, 0) := rfl
theorem e132_63 (a0 : Option Value) (x : Int32) (ls : mL) (st : List Value) (σ : mS) : ev 132 63 (a0 :: some (.int x) :: ls) st σ = ev 132 64 (a0 :: some (.int x) :: ls) (.int x :: st) σ := e_iload1 k132_63 rfl
theorem k132_64 : cod 132 64 = some (.if_icmp .ne (53), 3, 117, 0, 0, 0) := rfl
theorem e132_64 (x y : Int32) (ls : mL) (st : List Value) (σ : mS) : ev 132 64 ls (.int y :: .int x :: st) σ = if x = y then ev 132 67 ls st σ else ev 132 117 ls st σ := e_ic_ne k132_64
theorem k132_67 : cod 132 67 = some (.aload_n 0, 1, 0, 0, 0, 0) := rfl
theorem e132_67 (x : Nat) (ls : mL) (st : List Value) (σ : mS) : ev 132 67 (some (.ref x) :: ls) st σ = ev 132 68 (some (.ref x) :: ls) (.ref x :: st) σ := e_aload1 k132_67 rfl
theorem k132_68 : cod 132 68 = some (.getfield 36, 3, 7, 4, 0, 3) := rfl
theorem e132_68 (t : Nat) (ls : mL) (st : List Value) (σ : mS) : ev 132 68 ls (.ref t :: st) σ = gfK (σ.1 t) 7 4 (fun v => ev 132 71 ls (v :: st) σ) := e_getf k132_68
theorem k132_71 : cod 132 71 = some (.getfield 213, 3, 0, 3, 1, 3) := rfl
theorem e132_71 (t : Nat) (ls : mL) (st : List Value) (σ : mS) : ev 132 71 ls (.ref t :: st) σ = gfK (σ.1 t) 0 3 (fun v => ev 132 74 ls (v :: st) σ) := e_getf k132_71
theorem k132_74 : cod 132 74 = some (.iload_n 3, 1, 0, 0, 0, 0) := rfl
theorem e132_74 (a0 a1 a2 : Option Value) (x : Int32) (ls : mL) (st : List Value) (σ : mS) : ev 132 74 (a0 :: a1 :: a2 :: some (.int x) :: ls) st σ = ev 132 75 (a0 :: a1 :: a2 :: some (.int x) :: ls) (.int x :: st) σ := e_iload1 k132_74 rfl
theorem k132_75 : cod 132 75 = some (.bipush (8), 2, 0, 0, 0, 0) := rfl
theorem e132_75 (ls : mL) (st : List Value) (σ : mS) : ev 132 75 ls st σ = ev 132 77 ls (.int 8 :: st) σ := e_bipush 8 k132_75 (by decide)
theorem k132_77 : cod 132 77 = some (.invokevirtual 160, 3, 38, 2, 0, 3) := rfl
theorem e132_77 (t : Nat) (x0 : Int32) (x1 : Int32) (ls : mL) (st : List Value) (σ : mS) (hm : mCat st ≤ 8) : ev 132 77 ls (.int x1 :: .int x0 :: .ref t :: st) σ = isC (σ.1 t) 3 ((evM 38 [.ref t, .int x0, .int x1] σ).bind fun z => ev 132 80 ls (z.1.toList ++ st) z.2) := e_callVK k132_77 (by decide) rfl ⟨hm, Nat.le_of_ble_eq_true rfl⟩
theorem k132_80 : cod 132 80 = some (.ifCond .ne (37), 3, 117, 0, 0, 0) := rfl
theorem e132_80 (x : Int32) (ls : mL) (st : List Value) (σ : mS) : ev 132 80 ls (.int x :: st) σ = if x = 0 then ev 132 83 ls st σ else ev 132 117 ls st σ := e_if_ne k132_80
theorem k132_83 : cod 132 83 = some (.aload_n 0, 1, 0, 0, 0, 0) := rfl
theorem e132_83 (x : Nat) (ls : mL) (st : List Value) (σ : mS) : ev 132 83 (some (.ref x) :: ls) st σ = ev 132 84 (some (.ref x) :: ls) (.ref x :: st) σ := e_aload1 k132_83 rfl
theorem k132_84 : cod 132 84 = some (.getfield 26, 3, 7, 2, 0, 3) := rfl
theorem e132_84 (t : Nat) (ls : mL) (st : List Value) (σ : mS) : ev 132 84 ls (.ref t :: st) σ = gfK (σ.1 t) 7 2 (fun v => ev 132 87 ls (v :: st) σ) := e_getf k132_84
theorem k132_87 : cod 132 87 = some (.iload_n 2, 1, 0, 0, 0, 0) := rfl
theorem e132_87 (a0 a1 : Option Value) (x : Int32) (ls : mL) (st : List Value) (σ : mS) : ev 132 87 (a0 :: a1 :: some (.int x) :: ls) st σ = ev 132 88 (a0 :: a1 :: some (.int x) :: ls) (.int x :: st) σ := e_iload1 k132_87 rfl
theorem k132_88 : cod 132 88 = some (.aload_n 0, 1, 0, 0, 0, 0) := rfl
theorem e132_88 (x : Nat) (ls : mL) (st : List Value) (σ : mS) : ev 132 88 (some (.ref x) :: ls) st σ = ev 132 89 (some (.ref x) :: ls) (.ref x :: st) σ := e_aload1 k132_88 rfl
theorem k132_89 : cod 132 89 = some (.getfield 36, 3, 7, 4, 0, 3) := rfl
theorem e132_89 (t : Nat) (ls : mL) (st : List Value) (σ : mS) : ev 132 89 ls (.ref t :: st) σ = gfK (σ.1 t) 7 4 (fun v => ev 132 92 ls (v :: st) σ) := e_getf k132_89
theorem k132_92 : cod 132 92 = some (.getfield 213, 3, 0, 3, 1, 3) := rfl
theorem e132_92 (t : Nat) (ls : mL) (st : List Value) (σ : mS) : ev 132 92 ls (.ref t :: st) σ = gfK (σ.1 t) 0 3 (fun v => ev 132 95 ls (v :: st) σ) := e_getf k132_92
theorem k132_95 : cod 132 95 = some (.iload_n 3, 1, 0, 0, 0, 0) := rfl
theorem e132_95 (a0 a1 a2 : Option Value) (x : Int32) (ls : mL) (st : List Value) (σ : mS) : ev 132 95 (a0 :: a1 :: a2 :: some (.int x) :: ls) st σ = ev 132 96 (a0 :: a1 :: a2 :: some (.int x) :: ls) (.int x :: st) σ := e_iload1 k132_95 rfl
theorem k132_96 : cod 132 96 = some (.iconst 2, 1, 0, 0, 0, 0) := rfl
theorem e132_96 (ls : mL) (st : List Value) (σ : mS) : ev 132 96 ls st σ = ev 132 97 ls (.int 2 :: st) σ := e_iconst 2 k132_96 (by decide)
theorem k132_97 : cod 132 97 = some (.invokevirtual 160, 3, 38, 2, 0, 3) := rfl
theorem e132_97 (t : Nat) (x0 : Int32) (x1 : Int32) (ls : mL) (st : List Value) (σ : mS) (hm : mCat st ≤ 8) : ev 132 97 ls (.int x1 :: .int x0 :: .ref t :: st) σ = isC (σ.1 t) 3 ((evM 38 [.ref t, .int x0, .int x1] σ).bind fun z => ev 132 100 ls (z.1.toList ++ st) z.2) := e_callVK k132_97 (by decide) rfl ⟨hm, Nat.le_of_ble_eq_true rfl⟩
theorem k132_100 : cod 132 100 = some (.aload_n 0, 1, 0, 0, 0, 0) := rfl
theorem e132_100 (x : Nat) (ls : mL) (st : List Value) (σ : mS) : ev 132 100 (some (.ref x) :: ls) st σ = ev 132 101 (some (.ref x) :: ls) (.ref x :: st) σ := e_aload1 k132_100 rfl
theorem k132_101 : cod 132 101 = some (.getfield 36, 3, 7, 4, 0, 3) := rfl
theorem e132_101 (t : Nat) (ls : mL) (st : List Value) (σ : mS) : ev 132 101 ls (.ref t :: st) σ = gfK (σ.1 t) 7 4 (fun v => ev 132 104 ls (v :: st) σ) := e_getf k132_101
theorem k132_104 : cod 132 104 = some (.getfield 213, 3, 0, 3, 1, 3) := rfl
theorem e132_104 (t : Nat) (ls : mL) (st : List Value) (σ : mS) : ev 132 104 ls (.ref t :: st) σ = gfK (σ.1 t) 0 3 (fun v => ev 132 107 ls (v :: st) σ) := e_getf k132_104
theorem k132_107 : cod 132 107 = some (.iload_n 3, 1, 0, 0, 0, 0) := rfl
theorem e132_107 (a0 a1 a2 : Option Value) (x : Int32) (ls : mL) (st : List Value) (σ : mS) : ev 132 107 (a0 :: a1 :: a2 :: some (.int x) :: ls) st σ = ev 132 108 (a0 :: a1 :: a2 :: some (.int x) :: ls) (.int x :: st) σ := e_iload1 k132_107 rfl
theorem k132_108 : cod 132 108 = some (.bipush (9), 2, 0, 0, 0, 0) := rfl
theorem e132_108 (ls : mL) (st : List Value) (σ : mS) : ev 132 108 ls st σ = ev 132 110 ls (.int 9 :: st) σ := e_bipush 9 k132_108 (by decide)
theorem k132_110 : cod 132 110 = some (.invokevirtual 160, 3, 38, 2, 0, 3) := rfl
theorem e132_110 (t : Nat) (x0 : Int32) (x1 : Int32) (ls : mL) (st : List Value) (σ : mS) (hm : mCat st ≤ 8) : ev 132 110 ls (.int x1 :: .int x0 :: .ref t :: st) σ = isC (σ.1 t) 3 ((evM 38 [.ref t, .int x0, .int x1] σ).bind fun z => ev 132 113 ls (z.1.toList ++ st) z.2) := e_callVK k132_110 (by decide) rfl ⟨hm, Nat.le_of_ble_eq_true rfl⟩
theorem k132_113 : cod 132 113 = some (.invokevirtual 266, 3, 82, 3, 0, 6) := rfl
theorem e132_113 (t : Nat) (x0 : Int32) (x1 : Int32) (x2 : Int32) (ls : mL) (st : List Value) (σ : mS) (hm : mCat st ≤ 8) : ev 132 113 ls (.int x2 :: .int x1 :: .int x0 :: .ref t :: st) σ = isC (σ.1 t) 6 ((evM 82 [.ref t, .int x0, .int x1, .int x2] σ).bind fun z => ev 132 116 ls (z.1.toList ++ st) z.2) := e_callVK k132_113 (by decide) rfl ⟨hm, Nat.le_of_ble_eq_true rfl⟩
theorem k132_116 : cod 132 116 = some (.istore_n 2, 1, 0, 0, 0, 0) := rfl
theorem e132_116i (a0 : Option Value) (y : Int32) (o : Option Value) (x : Int32) (ls : mL) (st : List Value) (σ : mS) : ev 132 116 (a0 :: some (.int y) :: o :: ls) (.int x :: st) σ = ev 132 117 (a0 :: some (.int y) :: some (.int x) :: ls) st σ := e_istore1 k132_116 (Nat.le_add_left 3 ls.length)
theorem e132_116n (a0 : Option Value) (o : Option Value) (x : Int32) (ls : mL) (st : List Value) (σ : mS) : ev 132 116 (a0 :: none :: o :: ls) (.int x :: st) σ = ev 132 117 (a0 :: none :: some (.int x) :: ls) st σ := e_istore1 k132_116 (Nat.le_add_left 3 ls.length)
theorem e132_116r (a0 : Option Value) (y : Nat) (o : Option Value) (x : Int32) (ls : mL) (st : List Value) (σ : mS) : ev 132 116 (a0 :: some (.ref y) :: o :: ls) (.int x :: st) σ = ev 132 117 (a0 :: some (.ref y) :: some (.int x) :: ls) st σ := e_istore1 k132_116 (Nat.le_add_left 3 ls.length)
theorem k132_117 : cod 132 117 = some (.iinc 3 (1), 3, 0, 0, 0, 0) := rfl
theorem e132_117i (a0 a1 : Option Value) (y : Int32) (x : Int32) (ls : mL) (st : List Value) (σ : mS) : ev 132 117 (a0 :: a1 :: some (.int y) :: some (.int x) :: ls) st σ = ev 132 120 (a0 :: a1 :: some (.int y) :: some (.int (x + 1)) :: ls) st σ := e_iinc 1 k132_117 (by decide) rfl
theorem e132_117n (a0 a1 : Option Value) (x : Int32) (ls : mL) (st : List Value) (σ : mS) : ev 132 117 (a0 :: a1 :: none :: some (.int x) :: ls) st σ = ev 132 120 (a0 :: a1 :: none :: some (.int (x + 1)) :: ls) st σ := e_iinc 1 k132_117 (by decide) rfl
theorem e132_117r (a0 a1 : Option Value) (y : Nat) (x : Int32) (ls : mL) (st : List Value) (σ : mS) : ev 132 117 (a0 :: a1 :: some (.ref y) :: some (.int x) :: ls) st σ = ev 132 120 (a0 :: a1 :: some (.ref y) :: some (.int (x + 1)) :: ls) st σ := e_iinc 1 k132_117 (by decide) rfl
theorem k132_120 : cod 132 120 = some (.goto (-89), 3, 31, 0, 0, 0) := rfl
theorem e132_120 (ls : mL) (st : List Value) (σ : mS) : ev 132 120 ls st σ = ev 132 31 ls st σ := e_goto k132_120
theorem k132_123 : cod 132 123 = some (.iload_n 2, 1, 0, 0, 0, 0) := rfl
theorem e132_123 (a0 a1 : Option Value) (x : Int32) (ls : mL) (st : List Value) (σ : mS) : ev 132 123 (a0 :: a1 :: some (.int x) :: ls) st σ = ev 132 124 (a0 :: a1 :: some (.int x) :: ls) (.int x :: st) σ := e_iload1 k132_123 rfl
theorem k132_124 : cod 132 124 = some (.ireturn, 1, 0, 0, 0, 0) := rfl
theorem e132_124 (x : Int32) (ls : mL) (σ : mS) : ev 132 124 ls [.int x] σ = some (some (.int x), σ) := e_iret k132_124 rfl
theorem m132 (t : Nat) (x0 : Int32) (σ : mS) : evM 132 [.ref t, .int x0] σ = ev 132 0 [some (.ref t), some (.int x0), none, none] [] σ := rfl
theorem k133_0 : cod 133 0 = some (.iload_n 1, 1, 0, 0, 0, 0) := rfl
theorem e133_0 (a0 : Option Value) (x : Int32) (ls : mL) (st : List Value) (σ : mS) : ev 133 0 (a0 :: some (.int x) :: ls) st σ = ev 133 1 (a0 :: some (.int x) :: ls) (.int x :: st) σ := e_iload1 k133_0 rfl
theorem k133_1 : cod 133 1 = some (.iconst 0, 1, 0, 0, 0, 0) := rfl
theorem e133_1 (ls : mL) (st : List Value) (σ : mS) : ev 133 1 ls st σ = ev 133 2 ls (.int 0 :: st) σ := e_iconst 0 k133_1 (by decide)
theorem k133_2 : cod 133 2 = some (.iconst 1, 1, 0, 0, 0, 0) := rfl
theorem e133_2 (ls : mL) (st : List Value) (σ : mS) : ev 133 2 ls st σ = ev 133 3 ls (.int 1 :: st) σ := e_iconst 1 k133_2 (by decide)
theorem k133_3 : cod 133 3 = some (.invokestatic 78, 3, 87, 3, 0, 0) := rfl
theorem e133_3 (x0 : Int32) (x1 : Int32) (x2 : Int32) (ls : mL) (st : List Value) (σ : mS) (hm : mCat st ≤ 8) : ev 133 3 ls (.int x2 :: .int x1 :: .int x0 :: st) σ = (evM 87 [.int x0, .int x1, .int x2] σ).bind fun z => ev 133 6 ls (z.1.toList ++ st) z.2 := e_callS k133_3 (by decide) rfl ⟨hm, Nat.le_of_ble_eq_true rfl⟩
theorem k133_6 : cod 133 6 = some (.ifCond .ne (5), 3, 11, 0, 0, 0) := rfl
theorem e133_6 (x : Int32) (ls : mL) (st : List Value) (σ : mS) : ev 133 6 ls (.int x :: st) σ = if x = 0 then ev 133 9 ls st σ else ev 133 11 ls st σ := e_if_ne k133_6
theorem k133_9 : cod 133 9 = some (.iconst (-1), 1, 0, 0, 0, 0) := rfl
theorem e133_9 (ls : mL) (st : List Value) (σ : mS) : ev 133 9 ls st σ = ev 133 10 ls (.int (-1) :: st) σ := e_iconst (-1) k133_9 (by decide)
theorem k133_10 : cod 133 10 = some (.ireturn, 1, 0, 0, 0, 0) := rfl
theorem e133_10 (x : Int32) (ls : mL) (σ : mS) : ev 133 10 ls [.int x] σ = some (some (.int x), σ) := e_iret k133_10 rfl
theorem k133_11 : cod 133 11 = some (.iload_n 1, 1, 0, 0, 0, 0) := rfl
theorem e133_11 (a0 : Option Value) (x : Int32) (ls : mL) (st : List Value) (σ : mS) : ev 133 11 (a0 :: some (.int x) :: ls) st σ = ev 133 12 (a0 :: some (.int x) :: ls) (.int x :: st) σ := e_iload1 k133_11 rfl
theorem k133_12 : cod 133 12 = some (.ifCond .ne (10), 3, 22, 0, 0, 0) := rfl
theorem e133_12 (x : Int32) (ls : mL) (st : List Value) (σ : mS) : ev 133 12 ls (.int x :: st) σ = if x = 0 then ev 133 15 ls st σ else ev 133 22 ls st σ := e_if_ne k133_12
theorem k133_15 : cod 133 15 = some (.aload_n 0, 1, 0, 0, 0, 0) := rfl
theorem e133_15 (x : Nat) (ls : mL) (st : List Value) (σ : mS) : ev 133 15 (some (.ref x) :: ls) st σ = ev 133 16 (some (.ref x) :: ls) (.ref x :: st) σ := e_aload1 k133_15 rfl
theorem k133_16 : cod 133 16 = some (.getfield 40, 3, 7, 5, 0, 3) := rfl
theorem e133_16 (t : Nat) (ls : mL) (st : List Value) (σ : mS) : ev 133 16 ls (.ref t :: st) σ = gfK (σ.1 t) 7 5 (fun v => ev 133 19 ls (v :: st) σ) := e_getf k133_16
theorem k133_19 : cod 133 19 = some (.goto (7), 3, 26, 0, 0, 0) := rfl
theorem e133_19 (ls : mL) (st : List Value) (σ : mS) : ev 133 19 ls st σ = ev 133 26 ls st σ := e_goto k133_19
theorem k133_22 : cod 133 22 = some (.aload_n 0, 1, 0, 0, 0, 0) := rfl
theorem e133_22 (x : Nat) (ls : mL) (st : List Value) (σ : mS) : ev 133 22 (some (.ref x) :: ls) st σ = ev 133 23 (some (.ref x) :: ls) (.ref x :: st) σ := e_aload1 k133_22 rfl
theorem k133_23 : cod 133 23 = some (.getfield 43, 3, 7, 6, 0, 3) := rfl
theorem e133_23 (t : Nat) (ls : mL) (st : List Value) (σ : mS) : ev 133 23 ls (.ref t :: st) σ = gfK (σ.1 t) 7 6 (fun v => ev 133 26 ls (v :: st) σ) := e_getf k133_23
theorem k133_26 : cod 133 26 = some (.astore_n 2, 1, 0, 0, 0, 0) := rfl
theorem e133_26i (a0 : Option Value) (y : Int32) (o : Option Value) (x : Nat) (ls : mL) (st : List Value) (σ : mS) : ev 133 26 (a0 :: some (.int y) :: o :: ls) (.ref x :: st) σ = ev 133 27 (a0 :: some (.int y) :: some (.ref x) :: ls) st σ := e_astore1 k133_26 (Nat.le_add_left 3 ls.length)
theorem e133_26n (a0 : Option Value) (o : Option Value) (x : Nat) (ls : mL) (st : List Value) (σ : mS) : ev 133 26 (a0 :: none :: o :: ls) (.ref x :: st) σ = ev 133 27 (a0 :: none :: some (.ref x) :: ls) st σ := e_astore1 k133_26 (Nat.le_add_left 3 ls.length)
theorem e133_26r (a0 : Option Value) (y : Nat) (o : Option Value) (x : Nat) (ls : mL) (st : List Value) (σ : mS) : ev 133 26 (a0 :: some (.ref y) :: o :: ls) (.ref x :: st) σ = ev 133 27 (a0 :: some (.ref y) :: some (.ref x) :: ls) st σ := e_astore1 k133_26 (Nat.le_add_left 3 ls.length)
theorem k133_27 : cod 133 27 = some (.aload_n 2, 1, 0, 0, 0, 0) := rfl
theorem e133_27 (a0 a1 : Option Value) (x : Nat) (ls : mL) (st : List Value) (σ : mS) : ev 133 27 (a0 :: a1 :: some (.ref x) :: ls) st σ = ev 133 28 (a0 :: a1 :: some (.ref x) :: ls) (.ref x :: st) σ := e_aload1 k133_27 rfl
theorem k133_28 : cod 133 28 = some (.aload_n 0, 1, 0, 0, 0, 0) := rfl
theorem e133_28 (x : Nat) (ls : mL) (st : List Value) (σ : mS) : ev 133 28 (some (.ref x) :: ls) st σ = ev 133 29 (some (.ref x) :: ls) (.ref x :: st) σ := e_aload1 k133_28 rfl
theorem k133_29 : cod 133 29 = some (.getfield 36, 3, 7, 4, 0, 3) := rfl
theorem e133_29 (t : Nat) (ls : mL) (st : List Value) (σ : mS) : ev 133 29 ls (.ref t :: st) σ = gfK (σ.1 t) 7 4 (fun v => ev 133 32 ls (v :: st) σ) := e_getf k133_29
theorem k133_32 : cod 133 32 = some (.invokevirtual 269, 3, 19, 1, 0, 0) := rfl
theorem e133_32 (t : Nat) (x0 : Nat) (ls : mL) (st : List Value) (σ : mS) (hm : mCat st ≤ 8) : ev 133 32 ls (.ref x0 :: .ref t :: st) σ = isC (σ.1 t) 0 ((evM 19 [.ref t, .ref x0] σ).bind fun z => ev 133 35 ls (z.1.toList ++ st) z.2) := e_callVK k133_32 (by decide) rfl ⟨hm, Nat.le_of_ble_eq_true rfl⟩
theorem k133_35 : cod 133 35 = some (.aload_n 2, 1, 0, 0, 0, 0) := rfl
theorem e133_35 (a0 a1 : Option Value) (x : Nat) (ls : mL) (st : List Value) (σ : mS) : ev 133 35 (a0 :: a1 :: some (.ref x) :: ls) st σ = ev 133 36 (a0 :: a1 :: some (.ref x) :: ls) (.ref x :: st) σ := e_aload1 k133_35 rfl
theorem k133_36 : cod 133 36 = some (.iconst 1, 1, 0, 0, 0, 0) := rfl
theorem e133_36 (ls : mL) (st : List Value) (σ : mS) : ev 133 36 ls st σ = ev 133 37 ls (.int 1 :: st) σ := e_iconst 1 k133_36 (by decide)
theorem k133_37 : cod 133 37 = some (.putfield 273, 3, 0, 5, 1, 1) := rfl
theorem e133_37 (x : Int32) (t : Nat) (ls : mL) (st : List Value) (σ : mS) (hx : x = 0 ∨ x = 1) : ev 133 37 ls (.int x :: .ref t :: st) σ = pfK (σ.1 t) 0 5 (.int x) (fun e => ev 133 40 ls st (mset σ t e)) := e_putZ k133_37 hx
theorem k133_40 : cod 133 40 = some (.aload_n 0, 1, 0, 0, 0, 0) := rfl
theorem e133_40 (x : Nat) (ls : mL) (st : List Value) (σ : mS) : ev 133 40 (some (.ref x) :: ls) st σ = ev 133 41 (some (.ref x) :: ls) (.ref x :: st) σ := e_aload1 k133_40 rfl
theorem k133_41 : cod 133 41 = some (.getfield 36, 3, 7, 4, 0, 3) := rfl
theorem e133_41 (t : Nat) (ls : mL) (st : List Value) (σ : mS) : ev 133 41 ls (.ref t :: st) σ = gfK (σ.1 t) 7 4 (fun v => ev 133 44 ls (v :: st) σ) := e_getf k133_41
theorem k133_44 : cod 133 44 = some (.getfield 222, 3, 0, 4, 1, 0) := rfl
theorem e133_44 (t : Nat) (ls : mL) (st : List Value) (σ : mS) : ev 133 44 ls (.ref t :: st) σ = gfK (σ.1 t) 0 4 (fun v => ev 133 47 ls (v :: st) σ) := e_getf k133_44
theorem k133_47 : cod 133 47 = some (.ireturn, 1, 0, 0, 0, 0) := rfl
theorem e133_47 (x : Int32) (ls : mL) (σ : mS) : ev 133 47 ls [.int x] σ = some (some (.int x), σ) := e_iret k133_47 rfl
theorem m133 (t : Nat) (x0 : Int32) (σ : mS) : evM 133 [.ref t, .int x0] σ = ev 133 0 [some (.ref t), some (.int x0), none] [] σ := rfl
theorem k134_0 : cod 134 0 = some (.iload_n 1, 1, 0, 0, 0, 0) := rfl
theorem e134_0 (a0 : Option Value) (x : Int32) (ls : mL) (st : List Value) (σ : mS) : ev 134 0 (a0 :: some (.int x) :: ls) st σ = ev 134 1 (a0 :: some (.int x) :: ls) (.int x :: st) σ := e_iload1 k134_0 rfl
theorem k134_1 : cod 134 1 = some (.iconst 0, 1, 0, 0, 0, 0) := rfl
theorem e134_1 (ls : mL) (st : List Value) (σ : mS) : ev 134 1 ls st σ = ev 134 2 ls (.int 0 :: st) σ := e_iconst 0 k134_1 (by decide)
theorem k134_2 : cod 134 2 = some (.iconst 1, 1, 0, 0, 0, 0) := rfl
theorem e134_2 (ls : mL) (st : List Value) (σ : mS) : ev 134 2 ls st σ = ev 134 3 ls (.int 1 :: st) σ := e_iconst 1 k134_2 (by decide)
theorem k134_3 : cod 134 3 = some (.invokestatic 78, 3, 87, 3, 0, 0) := rfl
theorem e134_3 (x0 : Int32) (x1 : Int32) (x2 : Int32) (ls : mL) (st : List Value) (σ : mS) (hm : mCat st ≤ 8) : ev 134 3 ls (.int x2 :: .int x1 :: .int x0 :: st) σ = (evM 87 [.int x0, .int x1, .int x2] σ).bind fun z => ev 134 6 ls (z.1.toList ++ st) z.2 := e_callS k134_3 (by decide) rfl ⟨hm, Nat.le_of_ble_eq_true rfl⟩
theorem k134_6 : cod 134 6 = some (.ifCond .ne (5), 3, 11, 0, 0, 0) := rfl
theorem e134_6 (x : Int32) (ls : mL) (st : List Value) (σ : mS) : ev 134 6 ls (.int x :: st) σ = if x = 0 then ev 134 9 ls st σ else ev 134 11 ls st σ := e_if_ne k134_6
theorem k134_9 : cod 134 9 = some (.iconst (-1), 1, 0, 0, 0, 0) := rfl
theorem e134_9 (ls : mL) (st : List Value) (σ : mS) : ev 134 9 ls st σ = ev 134 10 ls (.int (-1) :: st) σ := e_iconst (-1) k134_9 (by decide)
theorem k134_10 : cod 134 10 = some (.ireturn, 1, 0, 0, 0, 0) := rfl
theorem e134_10 (x : Int32) (ls : mL) (σ : mS) : ev 134 10 ls [.int x] σ = some (some (.int x), σ) := e_iret k134_10 rfl
theorem k134_11 : cod 134 11 = some (.iload_n 1, 1, 0, 0, 0, 0) := rfl
theorem e134_11 (a0 : Option Value) (x : Int32) (ls : mL) (st : List Value) (σ : mS) : ev 134 11 (a0 :: some (.int x) :: ls) st σ = ev 134 12 (a0 :: some (.int x) :: ls) (.int x :: st) σ := e_iload1 k134_11 rfl
theorem k134_12 : cod 134 12 = some (.ifCond .ne (10), 3, 22, 0, 0, 0) := rfl
theorem e134_12 (x : Int32) (ls : mL) (st : List Value) (σ : mS) : ev 134 12 ls (.int x :: st) σ = if x = 0 then ev 134 15 ls st σ else ev 134 22 ls st σ := e_if_ne k134_12
theorem k134_15 : cod 134 15 = some (.aload_n 0, 1, 0, 0, 0, 0) := rfl
theorem e134_15 (x : Nat) (ls : mL) (st : List Value) (σ : mS) : ev 134 15 (some (.ref x) :: ls) st σ = ev 134 16 (some (.ref x) :: ls) (.ref x :: st) σ := e_aload1 k134_15 rfl
theorem k134_16 : cod 134 16 = some (.getfield 40, 3, 7, 5, 0, 3) := rfl
theorem e134_16 (t : Nat) (ls : mL) (st : List Value) (σ : mS) : ev 134 16 ls (.ref t :: st) σ = gfK (σ.1 t) 7 5 (fun v => ev 134 19 ls (v :: st) σ) := e_getf k134_16
theorem k134_19 : cod 134 19 = some (.goto (7), 3, 26, 0, 0, 0) := rfl
theorem e134_19 (ls : mL) (st : List Value) (σ : mS) : ev 134 19 ls st σ = ev 134 26 ls st σ := e_goto k134_19
theorem k134_22 : cod 134 22 = some (.aload_n 0, 1, 0, 0, 0, 0) := rfl
theorem e134_22 (x : Nat) (ls : mL) (st : List Value) (σ : mS) : ev 134 22 (some (.ref x) :: ls) st σ = ev 134 23 (some (.ref x) :: ls) (.ref x :: st) σ := e_aload1 k134_22 rfl
theorem k134_23 : cod 134 23 = some (.getfield 43, 3, 7, 6, 0, 3) := rfl
theorem e134_23 (t : Nat) (ls : mL) (st : List Value) (σ : mS) : ev 134 23 ls (.ref t :: st) σ = gfK (σ.1 t) 7 6 (fun v => ev 134 26 ls (v :: st) σ) := e_getf k134_23
theorem k134_26 : cod 134 26 = some (.astore_n 2, 1, 0, 0, 0, 0) := rfl
theorem e134_26i (a0 : Option Value) (y : Int32) (o : Option Value) (x : Nat) (ls : mL) (st : List Value) (σ : mS) : ev 134 26 (a0 :: some (.int y) :: o :: ls) (.ref x :: st) σ = ev 134 27 (a0 :: some (.int y) :: some (.ref x) :: ls) st σ := e_astore1 k134_26 (Nat.le_add_left 3 ls.length)
theorem e134_26n (a0 : Option Value) (o : Option Value) (x : Nat) (ls : mL) (st : List Value) (σ : mS) : ev 134 26 (a0 :: none :: o :: ls) (.ref x :: st) σ = ev 134 27 (a0 :: none :: some (.ref x) :: ls) st σ := e_astore1 k134_26 (Nat.le_add_left 3 ls.length)
theorem e134_26r (a0 : Option Value) (y : Nat) (o : Option Value) (x : Nat) (ls : mL) (st : List Value) (σ : mS) : ev 134 26 (a0 :: some (.ref y) :: o :: ls) (.ref x :: st) σ = ev 134 27 (a0 :: some (.ref y) :: some (.ref x) :: ls) st σ := e_astore1 k134_26 (Nat.le_add_left 3 ls.length)
theorem k134_27 : cod 134 27 = some (.aload_n 2, 1, 0, 0, 0, 0) := rfl
theorem e134_27 (a0 a1 : Option Value) (x : Nat) (ls : mL) (st : List Value) (σ : mS) : ev 134 27 (a0 :: a1 :: some (.ref x) :: ls) st σ = ev 134 28 (a0 :: a1 :: some (.ref x) :: ls) (.ref x :: st) σ := e_aload1 k134_27 rfl
theorem k134_28 : cod 134 28 = some (.getfield 273, 3, 0, 5, 1, 1) := rfl
theorem e134_28 (t : Nat) (ls : mL) (st : List Value) (σ : mS) : ev 134 28 ls (.ref t :: st) σ = gfK (σ.1 t) 0 5 (fun v => ev 134 31 ls (v :: st) σ) := e_getf k134_28
theorem k134_31 : cod 134 31 = some (.ifCond .ne (6), 3, 37, 0, 0, 0) := rfl
theorem e134_31 (x : Int32) (ls : mL) (st : List Value) (σ : mS) : ev 134 31 ls (.int x :: st) σ = if x = 0 then ev 134 34 ls st σ else ev 134 37 ls st σ := e_if_ne k134_31
theorem k134_34 : cod 134 34 = some (.bipush (-2), 2, 0, 0, 0, 0) := rfl
theorem e134_34 (ls : mL) (st : List Value) (σ : mS) : ev 134 34 ls st σ = ev 134 36 ls (.int (-2) :: st) σ := e_bipush (-2) k134_34 (by decide)
theorem k134_36 : cod 134 36 = some (.ireturn, 1, 0, 0, 0, 0) := rfl
theorem e134_36 (x : Int32) (ls : mL) (σ : mS) : ev 134 36 ls [.int x] σ = some (some (.int x), σ) := e_iret k134_36 rfl
theorem k134_37 : cod 134 37 = some (.aload_n 0, 1, 0, 0, 0, 0) := rfl
theorem e134_37 (x : Nat) (ls : mL) (st : List Value) (σ : mS) : ev 134 37 (some (.ref x) :: ls) st σ = ev 134 38 (some (.ref x) :: ls) (.ref x :: st) σ := e_aload1 k134_37 rfl
theorem k134_38 : cod 134 38 = some (.getfield 36, 3, 7, 4, 0, 3) := rfl
theorem e134_38 (t : Nat) (ls : mL) (st : List Value) (σ : mS) : ev 134 38 ls (.ref t :: st) σ = gfK (σ.1 t) 7 4 (fun v => ev 134 41 ls (v :: st) σ) := e_getf k134_38
theorem k134_41 : cod 134 41 = some (.aload_n 2, 1, 0, 0, 0, 0) := rfl
theorem e134_41 (a0 a1 : Option Value) (x : Nat) (ls : mL) (st : List Value) (σ : mS) : ev 134 41 (a0 :: a1 :: some (.ref x) :: ls) st σ = ev 134 42 (a0 :: a1 :: some (.ref x) :: ls) (.ref x :: st) σ := e_aload1 k134_41 rfl
theorem k134_42 : cod 134 42 = some (.invokevirtual 269, 3, 19, 1, 0, 0) := rfl
theorem e134_42 (t : Nat) (x0 : Nat) (ls : mL) (st : List Value) (σ : mS) (hm : mCat st ≤ 8) : ev 134 42 ls (.ref x0 :: .ref t :: st) σ = isC (σ.1 t) 0 ((evM 19 [.ref t, .ref x0] σ).bind fun z => ev 134 45 ls (z.1.toList ++ st) z.2) := e_callVK k134_42 (by decide) rfl ⟨hm, Nat.le_of_ble_eq_true rfl⟩
theorem k134_45 : cod 134 45 = some (.aload_n 0, 1, 0, 0, 0, 0) := rfl
theorem e134_45 (x : Nat) (ls : mL) (st : List Value) (σ : mS) : ev 134 45 (some (.ref x) :: ls) st σ = ev 134 46 (some (.ref x) :: ls) (.ref x :: st) σ := e_aload1 k134_45 rfl
theorem k134_46 : cod 134 46 = some (.getfield 36, 3, 7, 4, 0, 3) := rfl
theorem e134_46 (t : Nat) (ls : mL) (st : List Value) (σ : mS) : ev 134 46 ls (.ref t :: st) σ = gfK (σ.1 t) 7 4 (fun v => ev 134 49 ls (v :: st) σ) := e_getf k134_46
theorem k134_49 : cod 134 49 = some (.getfield 222, 3, 0, 4, 1, 0) := rfl
theorem e134_49 (t : Nat) (ls : mL) (st : List Value) (σ : mS) : ev 134 49 ls (.ref t :: st) σ = gfK (σ.1 t) 0 4 (fun v => ev 134 52 ls (v :: st) σ) := e_getf k134_49
theorem k134_52 : cod 134 52 = some (.ireturn, 1, 0, 0, 0, 0) := rfl
theorem e134_52 (x : Int32) (ls : mL) (σ : mS) : ev 134 52 ls [.int x] σ = some (some (.int x), σ) := e_iret k134_52 rfl
theorem m134 (t : Nat) (x0 : Int32) (σ : mS) : evM 134 [.ref t, .int x0] σ = ev 134 0 [some (.ref t), some (.int x0), none] [] σ := rfl
theorem k135_0 : cod 135 0 = some (.iload_n 1, 1, 0, 0, 0, 0) := rfl
theorem e135_0 (a0 : Option Value) (x : Int32) (ls : mL) (st : List Value) (σ : mS) : ev 135 0 (a0 :: some (.int x) :: ls) st σ = ev 135 1 (a0 :: some (.int x) :: ls) (.int x :: st) σ := e_iload1 k135_0 rfl
theorem k135_1 : cod 135 1 = some (.tableswitch (135) (0) (8) #[51, 59, 67, 78, 89, 100, 111, 119, 127], 51, 0, 0, 0, 0) := rfl
theorem e135_1 (x : Int32) (ls : mL) (st : List Value) (σ : mS) : ev 135 1 ls (.int x :: st) σ = if x = 0 then ev 135 52 ls st σ else if x = 1 then ev 135 60 ls st σ else if x = 2 then ev 135 68 ls st σ else if x = 3 then ev 135 79 ls st σ else if x = 4 then ev 135 90 ls st σ else if x = 5 then ev 135 101 ls st σ else if x = 6 then ev 135 112 ls st σ else if x = 7 then ev 135 120 ls st σ else if x = 8 then ev 135 128 ls st σ else ev 135 136 ls st σ := by
  rw [e_sw k135_1]
  by_cases h0 : x = 0
  · subst h0; rfl
  rw [if_neg h0]
  by_cases h1 : x = 1
  · subst h1; rfl
  rw [if_neg h1]
  by_cases h2 : x = 2
  · subst h2; rfl
  rw [if_neg h2]
  by_cases h3 : x = 3
  · subst h3; rfl
  rw [if_neg h3]
  by_cases h4 : x = 4
  · subst h4; rfl
  rw [if_neg h4]
  by_cases h5 : x = 5
  · subst h5; rfl
  rw [if_neg h5]
  by_cases h6 : x = 6
  · subst h6; rfl
  rw [if_neg h6]
  by_cases h7 : x = 7
  · subst h7; rfl
  rw [if_neg h7]
  by_cases h8 : x = 8
  · subst h8; rfl
  rw [if_neg h8]
  rw [swT_out (n := 9) (df := 135) (lo := 0) (hi := 8) (off := #[51, 59, 67, 78, 89, 100, 111, 119, 127]) rfl rfl (by intro j hj; match j, hj with
    | 0, _ => exact h0
    | 1, _ => exact h1
    | 2, _ => exact h2
    | 3, _ => exact h3
    | 4, _ => exact h4
    | 5, _ => exact h5
    | 6, _ => exact h6
    | 7, _ => exact h7
    | 8, _ => exact h8
    | j + 9, hj => exact absurd hj (by omega))]
  rfl
theorem k135_52 : cod 135 52 = some (.aload_n 0, 1, 0, 0, 0, 0) := rfl
theorem e135_52 (x : Nat) (ls : mL) (st : List Value) (σ : mS) : ev 135 52 (some (.ref x) :: ls) st σ = ev 135 53 (some (.ref x) :: ls) (.ref x :: st) σ := e_aload1 k135_52 rfl
theorem k135_53 : cod 135 53 = some (.getfield 26, 3, 7, 2, 0, 3) := rfl
theorem e135_53 (t : Nat) (ls : mL) (st : List Value) (σ : mS) : ev 135 53 ls (.ref t :: st) σ = gfK (σ.1 t) 7 2 (fun v => ev 135 56 ls (v :: st) σ) := e_getf k135_53
theorem k135_56 : cod 135 56 = some (.getfield 93, 3, 6, 5, 1, 0) := rfl
theorem e135_56 (t : Nat) (ls : mL) (st : List Value) (σ : mS) : ev 135 56 ls (.ref t :: st) σ = gfK (σ.1 t) 6 5 (fun v => ev 135 59 ls (v :: st) σ) := e_getf k135_56
theorem k135_59 : cod 135 59 = some (.ireturn, 1, 0, 0, 0, 0) := rfl
theorem e135_59 (x : Int32) (ls : mL) (σ : mS) : ev 135 59 ls [.int x] σ = some (some (.int x), σ) := e_iret k135_59 rfl
theorem k135_60 : cod 135 60 = some (.aload_n 0, 1, 0, 0, 0, 0) := rfl
theorem e135_60 (x : Nat) (ls : mL) (st : List Value) (σ : mS) : ev 135 60 (some (.ref x) :: ls) st σ = ev 135 61 (some (.ref x) :: ls) (.ref x :: st) σ := e_aload1 k135_60 rfl
theorem k135_61 : cod 135 61 = some (.getfield 26, 3, 7, 2, 0, 3) := rfl
theorem e135_61 (t : Nat) (ls : mL) (st : List Value) (σ : mS) : ev 135 61 ls (.ref t :: st) σ = gfK (σ.1 t) 7 2 (fun v => ev 135 64 ls (v :: st) σ) := e_getf k135_61
theorem k135_64 : cod 135 64 = some (.getfield 277, 3, 6, 6, 1, 0) := rfl
theorem e135_64 (t : Nat) (ls : mL) (st : List Value) (σ : mS) : ev 135 64 ls (.ref t :: st) σ = gfK (σ.1 t) 6 6 (fun v => ev 135 67 ls (v :: st) σ) := e_getf k135_64
theorem k135_67 : cod 135 67 = some (.ireturn, 1, 0, 0, 0, 0) := rfl
theorem e135_67 (x : Int32) (ls : mL) (σ : mS) : ev 135 67 ls [.int x] σ = some (some (.int x), σ) := e_iret k135_67 rfl
theorem k135_68 : cod 135 68 = some (.aload_n 0, 1, 0, 0, 0, 0) := rfl
theorem e135_68 (x : Nat) (ls : mL) (st : List Value) (σ : mS) : ev 135 68 (some (.ref x) :: ls) st σ = ev 135 69 (some (.ref x) :: ls) (.ref x :: st) σ := e_aload1 k135_68 rfl
theorem k135_69 : cod 135 69 = some (.getfield 36, 3, 7, 4, 0, 3) := rfl
theorem e135_69 (t : Nat) (ls : mL) (st : List Value) (σ : mS) : ev 135 69 ls (.ref t :: st) σ = gfK (σ.1 t) 7 4 (fun v => ev 135 72 ls (v :: st) σ) := e_getf k135_69
theorem k135_72 : cod 135 72 = some (.getfield 151, 3, 0, 0, 1, 3) := rfl
theorem e135_72 (t : Nat) (ls : mL) (st : List Value) (σ : mS) : ev 135 72 ls (.ref t :: st) σ = gfK (σ.1 t) 0 0 (fun v => ev 135 75 ls (v :: st) σ) := e_getf k135_72
theorem k135_75 : cod 135 75 = some (.getfield 243, 3, 3, 3, 1, 0) := rfl
theorem e135_75 (t : Nat) (ls : mL) (st : List Value) (σ : mS) : ev 135 75 ls (.ref t :: st) σ = gfK (σ.1 t) 3 3 (fun v => ev 135 78 ls (v :: st) σ) := e_getf k135_75
theorem k135_78 : cod 135 78 = some (.ireturn, 1, 0, 0, 0, 0) := rfl
theorem e135_78 (x : Int32) (ls : mL) (σ : mS) : ev 135 78 ls [.int x] σ = some (some (.int x), σ) := e_iret k135_78 rfl
theorem k135_79 : cod 135 79 = some (.aload_n 0, 1, 0, 0, 0, 0) := rfl
theorem e135_79 (x : Nat) (ls : mL) (st : List Value) (σ : mS) : ev 135 79 (some (.ref x) :: ls) st σ = ev 135 80 (some (.ref x) :: ls) (.ref x :: st) σ := e_aload1 k135_79 rfl
theorem k135_80 : cod 135 80 = some (.getfield 36, 3, 7, 4, 0, 3) := rfl
theorem e135_80 (t : Nat) (ls : mL) (st : List Value) (σ : mS) : ev 135 80 ls (.ref t :: st) σ = gfK (σ.1 t) 7 4 (fun v => ev 135 83 ls (v :: st) σ) := e_getf k135_80
theorem k135_83 : cod 135 83 = some (.getfield 174, 3, 0, 1, 1, 3) := rfl
theorem e135_83 (t : Nat) (ls : mL) (st : List Value) (σ : mS) : ev 135 83 ls (.ref t :: st) σ = gfK (σ.1 t) 0 1 (fun v => ev 135 86 ls (v :: st) σ) := e_getf k135_83
theorem k135_86 : cod 135 86 = some (.getfield 243, 3, 3, 3, 1, 0) := rfl
theorem e135_86 (t : Nat) (ls : mL) (st : List Value) (σ : mS) : ev 135 86 ls (.ref t :: st) σ = gfK (σ.1 t) 3 3 (fun v => ev 135 89 ls (v :: st) σ) := e_getf k135_86
theorem k135_89 : cod 135 89 = some (.ireturn, 1, 0, 0, 0, 0) := rfl
theorem e135_89 (x : Int32) (ls : mL) (σ : mS) : ev 135 89 ls [.int x] σ = some (some (.int x), σ) := e_iret k135_89 rfl
theorem k135_90 : cod 135 90 = some (.aload_n 0, 1, 0, 0, 0, 0) := rfl
theorem e135_90 (x : Nat) (ls : mL) (st : List Value) (σ : mS) : ev 135 90 (some (.ref x) :: ls) st σ = ev 135 91 (some (.ref x) :: ls) (.ref x :: st) σ := e_aload1 k135_90 rfl
theorem k135_91 : cod 135 91 = some (.getfield 36, 3, 7, 4, 0, 3) := rfl
theorem e135_91 (t : Nat) (ls : mL) (st : List Value) (σ : mS) : ev 135 91 ls (.ref t :: st) σ = gfK (σ.1 t) 7 4 (fun v => ev 135 94 ls (v :: st) σ) := e_getf k135_91
theorem k135_94 : cod 135 94 = some (.getfield 185, 3, 0, 2, 1, 3) := rfl
theorem e135_94 (t : Nat) (ls : mL) (st : List Value) (σ : mS) : ev 135 94 ls (.ref t :: st) σ = gfK (σ.1 t) 0 2 (fun v => ev 135 97 ls (v :: st) σ) := e_getf k135_94
theorem k135_97 : cod 135 97 = some (.getfield 243, 3, 3, 3, 1, 0) := rfl
theorem e135_97 (t : Nat) (ls : mL) (st : List Value) (σ : mS) : ev 135 97 ls (.ref t :: st) σ = gfK (σ.1 t) 3 3 (fun v => ev 135 100 ls (v :: st) σ) := e_getf k135_97
theorem k135_100 : cod 135 100 = some (.ireturn, 1, 0, 0, 0, 0) := rfl
theorem e135_100 (x : Int32) (ls : mL) (σ : mS) : ev 135 100 ls [.int x] σ = some (some (.int x), σ) := e_iret k135_100 rfl
theorem k135_101 : cod 135 101 = some (.aload_n 0, 1, 0, 0, 0, 0) := rfl
theorem e135_101 (x : Nat) (ls : mL) (st : List Value) (σ : mS) : ev 135 101 (some (.ref x) :: ls) st σ = ev 135 102 (some (.ref x) :: ls) (.ref x :: st) σ := e_aload1 k135_101 rfl
theorem k135_102 : cod 135 102 = some (.getfield 36, 3, 7, 4, 0, 3) := rfl
theorem e135_102 (t : Nat) (ls : mL) (st : List Value) (σ : mS) : ev 135 102 ls (.ref t :: st) σ = gfK (σ.1 t) 7 4 (fun v => ev 135 105 ls (v :: st) σ) := e_getf k135_102
theorem k135_105 : cod 135 105 = some (.getfield 213, 3, 0, 3, 1, 3) := rfl
theorem e135_105 (t : Nat) (ls : mL) (st : List Value) (σ : mS) : ev 135 105 ls (.ref t :: st) σ = gfK (σ.1 t) 0 3 (fun v => ev 135 108 ls (v :: st) σ) := e_getf k135_105
theorem k135_108 : cod 135 108 = some (.getfield 243, 3, 3, 3, 1, 0) := rfl
theorem e135_108 (t : Nat) (ls : mL) (st : List Value) (σ : mS) : ev 135 108 ls (.ref t :: st) σ = gfK (σ.1 t) 3 3 (fun v => ev 135 111 ls (v :: st) σ) := e_getf k135_108
theorem k135_111 : cod 135 111 = some (.ireturn, 1, 0, 0, 0, 0) := rfl
theorem e135_111 (x : Int32) (ls : mL) (σ : mS) : ev 135 111 ls [.int x] σ = some (some (.int x), σ) := e_iret k135_111 rfl
theorem k135_112 : cod 135 112 = some (.aload_n 0, 1, 0, 0, 0, 0) := rfl
theorem e135_112 (x : Nat) (ls : mL) (st : List Value) (σ : mS) : ev 135 112 (some (.ref x) :: ls) st σ = ev 135 113 (some (.ref x) :: ls) (.ref x :: st) σ := e_aload1 k135_112 rfl
theorem k135_113 : cod 135 113 = some (.getfield 36, 3, 7, 4, 0, 3) := rfl
theorem e135_113 (t : Nat) (ls : mL) (st : List Value) (σ : mS) : ev 135 113 ls (.ref t :: st) σ = gfK (σ.1 t) 7 4 (fun v => ev 135 116 ls (v :: st) σ) := e_getf k135_113
theorem k135_116 : cod 135 116 = some (.getfield 222, 3, 0, 4, 1, 0) := rfl
theorem e135_116 (t : Nat) (ls : mL) (st : List Value) (σ : mS) : ev 135 116 ls (.ref t :: st) σ = gfK (σ.1 t) 0 4 (fun v => ev 135 119 ls (v :: st) σ) := e_getf k135_116
theorem k135_119 : cod 135 119 = some (.ireturn, 1, 0, 0, 0, 0) := rfl
theorem e135_119 (x : Int32) (ls : mL) (σ : mS) : ev 135 119 ls [.int x] σ = some (some (.int x), σ) := e_iret k135_119 rfl
theorem k135_120 : cod 135 120 = some (.aload_n 0, 1, 0, 0, 0, 0) := rfl
theorem e135_120 (x : Nat) (ls : mL) (st : List Value) (σ : mS) : ev 135 120 (some (.ref x) :: ls) st σ = ev 135 121 (some (.ref x) :: ls) (.ref x :: st) σ := e_aload1 k135_120 rfl
theorem k135_121 : cod 135 121 = some (.getfield 10, 3, 7, 0, 0, 3) := rfl
theorem e135_121 (t : Nat) (ls : mL) (st : List Value) (σ : mS) : ev 135 121 ls (.ref t :: st) σ = gfK (σ.1 t) 7 0 (fun v => ev 135 124 ls (v :: st) σ) := e_getf k135_121
theorem k135_124 : cod 135 124 = some (.getfield 82, 3, 4, 1, 1, 0) := rfl
theorem e135_124 (t : Nat) (ls : mL) (st : List Value) (σ : mS) : ev 135 124 ls (.ref t :: st) σ = gfK (σ.1 t) 4 1 (fun v => ev 135 127 ls (v :: st) σ) := e_getf k135_124
theorem k135_127 : cod 135 127 = some (.ireturn, 1, 0, 0, 0, 0) := rfl
theorem e135_127 (x : Int32) (ls : mL) (σ : mS) : ev 135 127 ls [.int x] σ = some (some (.int x), σ) := e_iret k135_127 rfl
theorem k135_128 : cod 135 128 = some (.aload_n 0, 1, 0, 0, 0, 0) := rfl
theorem e135_128 (x : Nat) (ls : mL) (st : List Value) (σ : mS) : ev 135 128 (some (.ref x) :: ls) st σ = ev 135 129 (some (.ref x) :: ls) (.ref x :: st) σ := e_aload1 k135_128 rfl
theorem k135_129 : cod 135 129 = some (.getfield 36, 3, 7, 4, 0, 3) := rfl
theorem e135_129 (t : Nat) (ls : mL) (st : List Value) (σ : mS) : ev 135 129 ls (.ref t :: st) σ = gfK (σ.1 t) 7 4 (fun v => ev 135 132 ls (v :: st) σ) := e_getf k135_129
theorem k135_132 : cod 135 132 = some (.invokevirtual 280, 3, 20, 0, 0, 0) := rfl
theorem e135_132 (t : Nat) (ls : mL) (st : List Value) (σ : mS) (hm : mCat st ≤ 8) : ev 135 132 ls (.ref t :: st) σ = isC (σ.1 t) 0 ((evM 20 [.ref t] σ).bind fun z => ev 135 135 ls (z.1.toList ++ st) z.2) := e_callVK k135_132 (by decide) rfl ⟨hm, Nat.le_of_ble_eq_true rfl⟩
theorem k135_135 : cod 135 135 = some (.ireturn, 1, 0, 0, 0, 0) := rfl
theorem e135_135 (x : Int32) (ls : mL) (σ : mS) : ev 135 135 ls [.int x] σ = some (some (.int x), σ) := e_iret k135_135 rfl
theorem k135_136 : cod 135 136 = some (.iconst (-1), 1, 0, 0, 0, 0) := rfl
theorem e135_136 (ls : mL) (st : List Value) (σ : mS) : ev 135 136 ls st σ = ev 135 137 ls (.int (-1) :: st) σ := e_iconst (-1) k135_136 (by decide)
theorem k135_137 : cod 135 137 = some (.ireturn, 1, 0, 0, 0, 0) := rfl
theorem e135_137 (x : Int32) (ls : mL) (σ : mS) : ev 135 137 ls [.int x] σ = some (some (.int x), σ) := e_iret k135_137 rfl
theorem m135 (t : Nat) (x0 : Int32) (σ : mS) : evM 135 [.ref t, .int x0] σ = ev 135 0 [some (.ref t), some (.int x0)] [] σ := rfl
theorem k136_0 : cod 136 0 = some (.aload_n 0, 1, 0, 0, 0, 0) := rfl
theorem e136_0 (x : Nat) (ls : mL) (st : List Value) (σ : mS) : ev 136 0 (some (.ref x) :: ls) st σ = ev 136 1 (some (.ref x) :: ls) (.ref x :: st) σ := e_aload1 k136_0 rfl
theorem k136_1 : cod 136 1 = some (.getfield 140, 3, 7, 10, 0, 2) := rfl
theorem e136_1 (t : Nat) (ls : mL) (st : List Value) (σ : mS) : ev 136 1 ls (.ref t :: st) σ = gfK (σ.1 t) 7 10 (fun v => ev 136 4 ls (v :: st) σ) := e_getf k136_1
theorem k136_4 : cod 136 4 = some (.lreturn, 1, 0, 0, 0, 0) := rfl
theorem e136_4 (x : Int64) (ls : mL) (σ : mS) : ev 136 4 ls [.long x] σ = some (some (.long x), σ) := e_lret k136_4 rfl
theorem m136 (t : Nat) (σ : mS) : evM 136 [.ref t] σ = ev 136 0 [some (.ref t)] [] σ := rfl
