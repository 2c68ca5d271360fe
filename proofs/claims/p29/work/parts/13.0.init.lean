/-! step rows, by program (wip/p29/gen13.py): init -/
theorem np_0 : nPar 0 = 0 := by decide +kernel
theorem np_1 : nPar 1 = 0 := by decide +kernel
theorem np_2 : nPar 2 = 0 := by decide +kernel
theorem np_3 : nPar 3 = 0 := by decide +kernel
theorem np_4 : nPar 4 = 0 := by decide +kernel
theorem np_5 : nPar 5 = 0 := by decide +kernel
theorem np_6 : nPar 6 = 2 := by decide +kernel
theorem np_7 : nPar 7 = 0 := by decide +kernel
theorem np_8 : nPar 8 = 0 := by decide +kernel
theorem np_9 : nPar 9 = 0 := by decide +kernel
theorem np_10 : nPar 10 = 0 := by decide +kernel
theorem np_11 : nPar 11 = 0 := by decide +kernel
theorem np_12 : nPar 12 = 2 := by decide +kernel
theorem np_13 : nPar 13 = 1 := by decide +kernel
theorem np_14 : nPar 14 = 1 := by decide +kernel
theorem np_15 : nPar 15 = 1 := by decide +kernel
theorem np_16 : nPar 16 = 1 := by decide +kernel
theorem np_17 : nPar 17 = 1 := by decide +kernel
theorem np_18 : nPar 18 = 3 := by decide +kernel
theorem np_19 : nPar 19 = 1 := by decide +kernel
theorem np_20 : nPar 20 = 1 := by decide +kernel
theorem np_21 : nPar 21 = 3 := by decide +kernel
theorem np_22 : nPar 22 = 3 := by decide +kernel
theorem np_23 : nPar 23 = 1 := by decide +kernel
theorem np_24 : nPar 24 = 1 := by decide +kernel
theorem np_25 : nPar 25 = 1 := by decide +kernel
theorem np_26 : nPar 26 = 1 := by decide +kernel
theorem np_27 : nPar 27 = 2 := by decide +kernel
theorem np_28 : nPar 28 = 1 := by decide +kernel
theorem np_29 : nPar 29 = 0 := by decide +kernel
theorem np_30 : nPar 30 = 2 := by decide +kernel
theorem np_31 : nPar 31 = 2 := by decide +kernel
theorem np_32 : nPar 32 = 2 := by decide +kernel
theorem np_33 : nPar 33 = 1 := by decide +kernel
theorem np_34 : nPar 34 = 2 := by decide +kernel
theorem np_35 : nPar 35 = 2 := by decide +kernel
theorem np_36 : nPar 36 = 1 := by decide +kernel
theorem np_37 : nPar 37 = 1 := by decide +kernel
theorem np_38 : nPar 38 = 1 := by decide +kernel
theorem np_39 : nPar 39 = 1 := by decide +kernel
theorem np_40 : nPar 40 = 2 := by decide +kernel
theorem np_41 : nPar 41 = 0 := by decide +kernel
theorem np_42 : nPar 42 = 1 := by decide +kernel
theorem np_43 : nPar 43 = 1 := by decide +kernel
theorem np_44 : nPar 44 = 1 := by decide +kernel
theorem np_45 : nPar 45 = 0 := by decide +kernel
theorem np_46 : nPar 46 = 0 := by decide +kernel
theorem np_47 : nPar 47 = 1 := by decide +kernel
theorem np_48 : nPar 48 = 1 := by decide +kernel
theorem np_49 : nPar 49 = 2 := by decide +kernel
theorem np_50 : nPar 50 = 3 := by decide +kernel
theorem np_51 : nPar 51 = 3 := by decide +kernel
theorem np_52 : nPar 52 = 1 := by decide +kernel
theorem np_53 : nPar 53 = 2 := by decide +kernel
theorem np_54 : nPar 54 = 1 := by decide +kernel
theorem np_55 : nPar 55 = 3 := by decide +kernel
theorem np_56 : nPar 56 = 2 := by decide +kernel
theorem np_57 : nPar 57 = 0 := by decide +kernel
theorem np_58 : nPar 58 = 1 := by decide +kernel
theorem np_59 : nPar 59 = 2 := by decide +kernel
theorem np_60 : nPar 60 = 2 := by decide +kernel
theorem np_61 : nPar 61 = 3 := by decide +kernel
theorem np_62 : nPar 62 = 2 := by decide +kernel
theorem np_63 : nPar 63 = 1 := by decide +kernel
theorem np_64 : nPar 64 = 1 := by decide +kernel
theorem np_65 : nPar 65 = 3 := by decide +kernel
theorem np_66 : nPar 66 = 4 := by decide +kernel
theorem np_67 : nPar 67 = 3 := by decide +kernel
theorem np_68 : nPar 68 = 3 := by decide +kernel
theorem np_69 : nPar 69 = 8 := by decide +kernel
theorem np_70 : nPar 70 = 2 := by decide +kernel
theorem np_71 : nPar 71 = 1 := by decide +kernel
theorem np_72 : nPar 72 = 1 := by decide +kernel
theorem np_73 : nPar 73 = 1 := by decide +kernel
theorem np_74 : nPar 74 = 0 := by decide +kernel
theorem np_75 : nPar 75 = 2 := by decide +kernel
theorem np_76 : nPar 76 = 2 := by decide +kernel
theorem np_77 : nPar 77 = 1 := by decide +kernel
theorem np_78 : nPar 78 = 2 := by decide +kernel
theorem np_79 : nPar 79 = 1 := by decide +kernel
theorem np_80 : nPar 80 = 1 := by decide +kernel
theorem np_81 : nPar 81 = 0 := by decide +kernel
theorem np_82 : nPar 82 = 1 := by decide +kernel
theorem np_83 : nPar 83 = 1 := by decide +kernel
theorem np_84 : nPar 84 = 1 := by decide +kernel
theorem np_85 : nPar 85 = 0 := by decide +kernel
theorem np_86 : nPar 86 = 1 := by decide +kernel
section S0
variable {a0 a1 a2 a3 a4 a5 a6 a7 a8 a9 a10 a11 a12 a13 a14 a15 a16 a17 a18 a19 a20 a21 a22 a23 : Option Value} {l ls : List (Option Value)} {r : List Value} {M : SM} {x y z w p k : Int32} {u v s : Int64} {a b c d a30 a31 a32 a33 a34 : Nat}

-- 0 DR_init()V
theorem t0_0 : rn 0 0 (some (.ref a) :: l) r M = rn 0 1 (some (.ref a) :: l) (.ref a :: r) M := r_aload_n (by decide +kernel : decode (mB 0) 0 = .ok (.aload_n 0, 1)) rfl
theorem t0_1 : rn 0 1 ls [.ref a] M = rn 0 4 ls [] M := r_obj (by decide +kernel : decode (mB 0) 1 = .ok (.invokespecial 1, 3)) (by decide +kernel) (by decide)
theorem t0_4 : rn 0 4 (some (.ref a) :: l) r M = rn 0 5 (some (.ref a) :: l) (.ref a :: r) M := r_aload_n (by decide +kernel : decode (mB 0) 4 = .ok (.aload_n 0, 1)) rfl
theorem t0_5 : rn 0 5 ls r M = rn 0 8 ls (.ref (mS M) :: r) (nw M (11, 0) 2) := r_new (ci := 1) (by decide +kernel : decode (mB 0) 5 = .ok (.new 7, 3)) (by decide +kernel) (by decide)
theorem t0_8 : rn 0 8 ls (.ref a :: r) M = rn 0 9 ls (.ref a :: .ref a :: r) M := r_nx (by decide +kernel : decode (mB 0) 8 = .ok (.dup, 1)) rfl rfl
theorem t0_9 : rn 0 9 ls [.ref a, .ref b, .ref c] M = cbn (cl 1 [.ref a] M) 0 12 ls [.ref b, .ref c] := r_callI (kd := 5) (by decide +kernel : decode (mB 0) 9 = .ok (.invokespecial 9, 3)) (by decide +kernel) (by decide +kernel) ((doI_n np_1).trans rfl)
theorem t0_12 : rn 0 12 ls (.ref b :: .ref a :: r) M = if mK M a = (10, 0) then rn 0 15 ls r (sP M a (va_up (mP M a) 0 (some b))) else none := r_putP (ci := 0) (k := 0) (by decide +kernel : decode (mB 0) 12 = .ok (.putfield 10, 3)) (by decide +kernel) rfl rfl
theorem t0_15 : rn 0 15 (some (.ref a) :: l) r M = rn 0 16 (some (.ref a) :: l) (.ref a :: r) M := r_aload_n (by decide +kernel : decode (mB 0) 15 = .ok (.aload_n 0, 1)) rfl
theorem t0_16 : rn 0 16 ls r M = rn 0 19 ls (.ref (mS M) :: r) (nw M (15, 0) 3) := r_new (ci := 5) (by decide +kernel : decode (mB 0) 16 = .ok (.new 16, 3)) (by decide +kernel) (by decide)
theorem t0_19 : rn 0 19 ls (.ref a :: r) M = rn 0 20 ls (.ref a :: .ref a :: r) M := r_nx (by decide +kernel : decode (mB 0) 19 = .ok (.dup, 1)) rfl rfl
theorem t0_20 : rn 0 20 ls [.ref a, .ref b, .ref c] M = cbn (cl 8 [.ref a] M) 0 23 ls [.ref b, .ref c] := r_callI (kd := 4) (by decide +kernel : decode (mB 0) 20 = .ok (.invokespecial 18, 3)) (by decide +kernel) (by decide +kernel) ((doI_n np_8).trans rfl)
theorem t0_23 : rn 0 23 ls (.ref b :: .ref a :: r) M = if mK M a = (10, 0) then rn 0 26 ls r (sP M a (va_up (mP M a) 1 (some b))) else none := r_putP (ci := 0) (k := 1) (by decide +kernel : decode (mB 0) 23 = .ok (.putfield 19, 3)) (by decide +kernel) rfl rfl
theorem t0_26 : rn 0 26 (some (.ref a) :: l) r M = rn 0 27 (some (.ref a) :: l) (.ref a :: r) M := r_aload_n (by decide +kernel : decode (mB 0) 26 = .ok (.aload_n 0, 1)) rfl
theorem t0_27 : rn 0 27 ls r M = rn 0 28 ls (.int 2 :: r) M := r_nx (by decide +kernel : decode (mB 0) 27 = .ok (.iconst 2, 1)) rfl rfl
theorem t0_28 : rn 0 28 ls (.int x :: r) M = if 0 ≤ x ∧ x ≤ 100000 then rn 0 31 ls (.ref (mS M) :: r) (nw M (4, x.toNatClampNeg) x.toNatClampNeg) else none := r_newP (k := 4) (by decide) (by decide +kernel : decode (mB 0) 28 = .ok (.anewarray 23, 3)) (by decide +kernel)
theorem t0_31 : rn 0 31 ls (.ref b :: .ref a :: r) M = if mK M a = (10, 0) then rn 0 34 ls r (sP M a (va_up (mP M a) 2 (some b))) else none := r_putP (ci := 0) (k := 2) (by decide +kernel : decode (mB 0) 31 = .ok (.putfield 25, 3)) (by decide +kernel) rfl rfl
theorem t0_34 : rn 0 34 (some (.ref a) :: l) r M = rn 0 35 (some (.ref a) :: l) (.ref a :: r) M := r_aload_n (by decide +kernel : decode (mB 0) 34 = .ok (.aload_n 0, 1)) rfl
theorem t0_35 : rn 0 35 ls r M = rn 0 38 ls (.ref (mS M) :: r) (nw M (16, 0) 5) := r_new (ci := 6) (by decide +kernel : decode (mB 0) 35 = .ok (.new 29, 3)) (by decide +kernel) (by decide)
theorem t0_38 : rn 0 38 ls (.ref a :: r) M = rn 0 39 ls (.ref a :: .ref a :: r) M := r_nx (by decide +kernel : decode (mB 0) 38 = .ok (.dup, 1)) rfl rfl
theorem t0_39 : rn 0 39 ls [.ref a, .ref b, .ref c] M = cbn (cl 9 [.ref a] M) 0 42 ls [.ref b, .ref c] := r_callI (kd := 5) (by decide +kernel : decode (mB 0) 39 = .ok (.invokespecial 31, 3)) (by decide +kernel) (by decide +kernel) ((doI_n np_9).trans rfl)
theorem t0_42 : rn 0 42 ls (.ref b :: .ref a :: r) M = if mK M a = (10, 0) then rn 0 45 ls r (sP M a (va_up (mP M a) 3 (some b))) else none := r_putP (ci := 0) (k := 3) (by decide +kernel : decode (mB 0) 42 = .ok (.putfield 32, 3)) (by decide +kernel) rfl rfl
theorem t0_45 : rn 0 45 (some (.ref a) :: l) r M = rn 0 46 (some (.ref a) :: l) (.ref a :: r) M := r_aload_n (by decide +kernel : decode (mB 0) 45 = .ok (.aload_n 0, 1)) rfl
theorem t0_46 : rn 0 46 ls r M = rn 0 49 ls (.ref (mS M) :: r) (nw M (13, 0) 7) := r_new (ci := 3) (by decide +kernel : decode (mB 0) 46 = .ok (.new 36, 3)) (by decide +kernel) (by decide)
theorem t0_49 : rn 0 49 ls (.ref a :: r) M = rn 0 50 ls (.ref a :: .ref a :: r) M := r_nx (by decide +kernel : decode (mB 0) 49 = .ok (.dup, 1)) rfl rfl
theorem t0_50 : rn 0 50 ls [.ref a, .ref b, .ref c] M = cbn (cl 3 [.ref a] M) 0 53 ls [.ref b, .ref c] := r_callI (kd := 4) (by decide +kernel : decode (mB 0) 50 = .ok (.invokespecial 38, 3)) (by decide +kernel) (by decide +kernel) ((doI_n np_3).trans rfl)
theorem t0_53 : rn 0 53 ls (.ref b :: .ref a :: r) M = if mK M a = (10, 0) then rn 0 56 ls r (sP M a (va_up (mP M a) 4 (some b))) else none := r_putP (ci := 0) (k := 4) (by decide +kernel : decode (mB 0) 53 = .ok (.putfield 39, 3)) (by decide +kernel) rfl rfl
theorem t0_56 : rn 0 56 (some (.ref a) :: l) r M = rn 0 57 (some (.ref a) :: l) (.ref a :: r) M := r_aload_n (by decide +kernel : decode (mB 0) 56 = .ok (.aload_n 0, 1)) rfl
theorem t0_57 : rn 0 57 ls r M = rn 0 60 ls (.ref (mS M) :: r) (nw M (14, 0) 2) := r_new (ci := 4) (by decide +kernel : decode (mB 0) 57 = .ok (.new 43, 3)) (by decide +kernel) (by decide)
theorem t0_60 : rn 0 60 ls (.ref a :: r) M = rn 0 61 ls (.ref a :: .ref a :: r) M := r_nx (by decide +kernel : decode (mB 0) 60 = .ok (.dup, 1)) rfl rfl
theorem t0_61 : rn 0 61 ls [.ref a, .ref b, .ref c] M = cbn (cl 4 [.ref a] M) 0 64 ls [.ref b, .ref c] := r_callI (kd := 4) (by decide +kernel : decode (mB 0) 61 = .ok (.invokespecial 45, 3)) (by decide +kernel) (by decide +kernel) ((doI_n np_4).trans rfl)
theorem t0_64 : rn 0 64 ls (.ref b :: .ref a :: r) M = if mK M a = (10, 0) then rn 0 67 ls r (sP M a (va_up (mP M a) 5 (some b))) else none := r_putP (ci := 0) (k := 5) (by decide +kernel : decode (mB 0) 64 = .ok (.putfield 46, 3)) (by decide +kernel) rfl rfl
theorem t0_67 : rn 0 67 ls r M = rn 0 68 ls (.int 0 :: r) M := r_nx (by decide +kernel : decode (mB 0) 67 = .ok (.iconst 0, 1)) rfl rfl
theorem t0_68 : rn 0 68 (a0 :: a1 :: l) (.int x :: r) M = rn 0 69 (a0 :: some (.int x) :: l) r M := r_istore_n (by decide +kernel : decode (mB 0) 68 = .ok (.istore_n 1, 1)) (Nat.le_add_left 2 l.length)
theorem t0_69 : rn 0 69 (a0 :: some (.int x) :: l) r M = rn 0 70 (a0 :: some (.int x) :: l) (.int x :: r) M := r_iload_n (by decide +kernel : decode (mB 0) 69 = .ok (.iload_n 1, 1)) rfl
theorem t0_70 : rn 0 70 ls r M = rn 0 71 ls (.int 2 :: r) M := r_nx (by decide +kernel : decode (mB 0) 70 = .ok (.iconst 2, 1)) rfl rfl
theorem t0_71 : rn 0 71 ls (.int y :: .int x :: r) M = if y ≤ x then rn 0 93 ls r M else rn 0 74 ls r M := r_if (o := 22) (r := r) (c := y ≤ x) (by decide +kernel : decode (mB 0) 71 = .ok (.if_icmp .ge 22, 3)) rfl (by decide) rfl
theorem t0_74 : rn 0 74 (some (.ref a) :: l) r M = rn 0 75 (some (.ref a) :: l) (.ref a :: r) M := r_aload_n (by decide +kernel : decode (mB 0) 74 = .ok (.aload_n 0, 1)) rfl
theorem t0_75 : rn 0 75 ls (.ref a :: r) M = if mK M a = (10, 0) then rn 0 78 ls (va_rf (mP M a 2) :: r) M else none := r_getP (ci := 0) (k := 2) (by decide +kernel : decode (mB 0) 75 = .ok (.getfield 25, 3)) (by decide +kernel) rfl
theorem t0_78 : rn 0 78 (a0 :: some (.int x) :: l) r M = rn 0 79 (a0 :: some (.int x) :: l) (.int x :: r) M := r_iload_n (by decide +kernel : decode (mB 0) 78 = .ok (.iload_n 1, 1)) rfl
theorem t0_79 : rn 0 79 ls r M = rn 0 82 ls (.ref (mS M) :: r) (nw M (18, 0) 2) := r_new (ci := 8) (by decide +kernel : decode (mB 0) 79 = .ok (.new 23, 3)) (by decide +kernel) (by decide)
theorem t0_82 : rn 0 82 ls (.ref a :: r) M = rn 0 83 ls (.ref a :: .ref a :: r) M := r_nx (by decide +kernel : decode (mB 0) 82 = .ok (.dup, 1)) rfl rfl
theorem t0_83 : rn 0 83 ls [.ref a, .ref b, .int x, .ref c] M = cbn (cl 11 [.ref a] M) 0 86 ls [.ref b, .int x, .ref c] := r_callI (kd := 5) (by decide +kernel : decode (mB 0) 83 = .ok (.invokespecial 50, 3)) (by decide +kernel) (by decide +kernel) ((doI_n np_11).trans rfl)
theorem t0_86 : rn 0 86 ls (.ref b :: .int x :: .ref a :: r) M = if ((mK M a = (3, (mK M a).2) ∧ mK M b = (10 + aoC 3, 0)) ∨ (mK M a = (4, (mK M a).2) ∧ mK M b = (10 + aoC 4, 0))) ∧ inR x (mK M a).2 then rn 0 87 ls r (sP M a (va_up (mP M a) x.toNatClampNeg (some b))) else none := r_cnd (by decide +kernel : decode (mB 0) 86 = .ok (.aastore, 1)) rfl rfl
theorem t0_87 : rn 0 87 (a0 :: some (.int x) :: l) r M = rn 0 90 (a0 :: some (.int (x + 1)) :: l) r M := r_iinc (by decide +kernel : decode (mB 0) 87 = .ok (.iinc 1 1, 3)) rfl
theorem t0_90 : rn 0 90 ls r M = rn 0 69 ls r M := r_goto (o := (-21)) (by decide +kernel : decode (mB 0) 90 = .ok (.goto (-21), 3)) (by decide)
theorem t0_93 : rn 0 93 ls [] M = some (none, M) := r_vreturn (by decide +kernel : decode (mB 0) 93 = .ok (.return_, 1)) rfl
-- 1 State_init()V
theorem t1_0 : rn 1 0 (some (.ref a) :: l) r M = rn 1 1 (some (.ref a) :: l) (.ref a :: r) M := r_aload_n (by decide +kernel : decode (mB 1) 0 = .ok (.aload_n 0, 1)) rfl
theorem t1_1 : rn 1 1 ls [.ref a] M = rn 1 4 ls [] M := r_obj (by decide +kernel : decode (mB 1) 1 = .ok (.invokespecial 3, 3)) (by decide +kernel) (by decide)
theorem t1_4 : rn 1 4 (some (.ref a) :: l) r M = rn 1 5 (some (.ref a) :: l) (.ref a :: r) M := r_aload_n (by decide +kernel : decode (mB 1) 4 = .ok (.aload_n 0, 1)) rfl
theorem t1_5 : rn 1 5 ls r M = rn 1 8 ls (.ref (mS M) :: r) (nw M (12, 0) 7) := r_new (ci := 2) (by decide +kernel : decode (mB 1) 5 = .ok (.new 9, 3)) (by decide +kernel) (by decide)
theorem t1_8 : rn 1 8 ls (.ref a :: r) M = rn 1 9 ls (.ref a :: .ref a :: r) M := r_nx (by decide +kernel : decode (mB 1) 8 = .ok (.dup, 1)) rfl rfl
theorem t1_9 : rn 1 9 ls [.ref a, .ref b, .ref c] M = cbn (cl 2 [.ref a] M) 1 12 ls [.ref b, .ref c] := r_callI (kd := 5) (by decide +kernel : decode (mB 1) 9 = .ok (.invokespecial 11, 3)) (by decide +kernel) (by decide +kernel) ((doI_n np_2).trans rfl)
theorem t1_12 : rn 1 12 ls (.ref b :: .ref a :: r) M = if mK M a = (11, 0) then rn 1 15 ls r (sP M a (va_up (mP M a) 0 (some b))) else none := r_putP (ci := 1) (k := 0) (by decide +kernel : decode (mB 1) 12 = .ok (.putfield 12, 3)) (by decide +kernel) rfl rfl
theorem t1_15 : rn 1 15 (some (.ref a) :: l) r M = rn 1 16 (some (.ref a) :: l) (.ref a :: r) M := r_aload_n (by decide +kernel : decode (mB 1) 15 = .ok (.aload_n 0, 1)) rfl
theorem t1_16 : rn 1 16 ls r M = rn 1 19 ls (.ref (mS M) :: r) (nw M (13, 0) 7) := r_new (ci := 3) (by decide +kernel : decode (mB 1) 16 = .ok (.new 18, 3)) (by decide +kernel) (by decide)
theorem t1_19 : rn 1 19 ls (.ref a :: r) M = rn 1 20 ls (.ref a :: .ref a :: r) M := r_nx (by decide +kernel : decode (mB 1) 19 = .ok (.dup, 1)) rfl rfl
theorem t1_20 : rn 1 20 ls [.ref a, .ref b, .ref c] M = cbn (cl 3 [.ref a] M) 1 23 ls [.ref b, .ref c] := r_callI (kd := 4) (by decide +kernel : decode (mB 1) 20 = .ok (.invokespecial 20, 3)) (by decide +kernel) (by decide +kernel) ((doI_n np_3).trans rfl)
theorem t1_23 : rn 1 23 ls (.ref b :: .ref a :: r) M = if mK M a = (11, 0) then rn 1 26 ls r (sP M a (va_up (mP M a) 1 (some b))) else none := r_putP (ci := 1) (k := 1) (by decide +kernel : decode (mB 1) 23 = .ok (.putfield 21, 3)) (by decide +kernel) rfl rfl
theorem t1_26 : rn 1 26 ls [] M = some (none, M) := r_vreturn (by decide +kernel : decode (mB 1) 26 = .ok (.return_, 1)) rfl
-- 2 Log_init()V
theorem t2_0 : rn 2 0 (some (.ref a) :: l) r M = rn 2 1 (some (.ref a) :: l) (.ref a :: r) M := r_aload_n (by decide +kernel : decode (mB 2) 0 = .ok (.aload_n 0, 1)) rfl
theorem t2_1 : rn 2 1 ls [.ref a] M = rn 2 4 ls [] M := r_obj (by decide +kernel : decode (mB 2) 1 = .ok (.invokespecial 3, 3)) (by decide +kernel) (by decide)
theorem t2_4 : rn 2 4 (some (.ref a) :: l) r M = rn 2 5 (some (.ref a) :: l) (.ref a :: r) M := r_aload_n (by decide +kernel : decode (mB 2) 4 = .ok (.aload_n 0, 1)) rfl
theorem t2_5 : rn 2 5 ls r M = rn 2 7 ls (.int 40 :: r) M := r_nx (by decide +kernel : decode (mB 2) 5 = .ok (.bipush 40, 2)) rfl rfl
theorem t2_7 : rn 2 7 ls (.int x :: r) M = if 0 ≤ x ∧ x ≤ 100000 then rn 2 9 ls (.ref (mS M) :: r) (nw M (1, x.toNatClampNeg) x.toNatClampNeg) else none := r_newI (by decide +kernel : decode (mB 2) 7 = .ok (.newarray .int, 2))
theorem t2_9 : rn 2 9 ls (.ref b :: .ref a :: r) M = if mK M a = (12, 0) then rn 2 12 ls r (sP M a (va_up (mP M a) 2 (some b))) else none := r_putP (ci := 2) (k := 2) (by decide +kernel : decode (mB 2) 9 = .ok (.putfield 9, 3)) (by decide +kernel) rfl rfl
theorem t2_12 : rn 2 12 (some (.ref a) :: l) r M = rn 2 13 (some (.ref a) :: l) (.ref a :: r) M := r_aload_n (by decide +kernel : decode (mB 2) 12 = .ok (.aload_n 0, 1)) rfl
theorem t2_13 : rn 2 13 ls r M = rn 2 15 ls (.int 40 :: r) M := r_nx (by decide +kernel : decode (mB 2) 13 = .ok (.bipush 40, 2)) rfl rfl
theorem t2_15 : rn 2 15 ls (.int x :: r) M = if 0 ≤ x ∧ x ≤ 100000 then rn 2 17 ls (.ref (mS M) :: r) (nw M (1, x.toNatClampNeg) x.toNatClampNeg) else none := r_newI (by decide +kernel : decode (mB 2) 15 = .ok (.newarray .int, 2))
theorem t2_17 : rn 2 17 ls (.ref b :: .ref a :: r) M = if mK M a = (12, 0) then rn 2 20 ls r (sP M a (va_up (mP M a) 3 (some b))) else none := r_putP (ci := 2) (k := 3) (by decide +kernel : decode (mB 2) 17 = .ok (.putfield 15, 3)) (by decide +kernel) rfl rfl
theorem t2_20 : rn 2 20 (some (.ref a) :: l) r M = rn 2 21 (some (.ref a) :: l) (.ref a :: r) M := r_aload_n (by decide +kernel : decode (mB 2) 20 = .ok (.aload_n 0, 1)) rfl
theorem t2_21 : rn 2 21 ls r M = rn 2 23 ls (.int 40 :: r) M := r_nx (by decide +kernel : decode (mB 2) 21 = .ok (.bipush 40, 2)) rfl rfl
theorem t2_23 : rn 2 23 ls (.int x :: r) M = if 0 ≤ x ∧ x ≤ 100000 then rn 2 25 ls (.ref (mS M) :: r) (nw M (1, x.toNatClampNeg) x.toNatClampNeg) else none := r_newI (by decide +kernel : decode (mB 2) 23 = .ok (.newarray .int, 2))
theorem t2_25 : rn 2 25 ls (.ref b :: .ref a :: r) M = if mK M a = (12, 0) then rn 2 28 ls r (sP M a (va_up (mP M a) 4 (some b))) else none := r_putP (ci := 2) (k := 4) (by decide +kernel : decode (mB 2) 25 = .ok (.putfield 18, 3)) (by decide +kernel) rfl rfl
theorem t2_28 : rn 2 28 (some (.ref a) :: l) r M = rn 2 29 (some (.ref a) :: l) (.ref a :: r) M := r_aload_n (by decide +kernel : decode (mB 2) 28 = .ok (.aload_n 0, 1)) rfl
theorem t2_29 : rn 2 29 ls r M = rn 2 31 ls (.int 40 :: r) M := r_nx (by decide +kernel : decode (mB 2) 29 = .ok (.bipush 40, 2)) rfl rfl
theorem t2_31 : rn 2 31 ls (.int x :: r) M = if 0 ≤ x ∧ x ≤ 100000 then rn 2 33 ls (.ref (mS M) :: r) (nw M (2, x.toNatClampNeg) x.toNatClampNeg) else none := r_newJ (by decide +kernel : decode (mB 2) 31 = .ok (.newarray .long, 2))
theorem t2_33 : rn 2 33 ls (.ref b :: .ref a :: r) M = if mK M a = (12, 0) then rn 2 36 ls r (sP M a (va_up (mP M a) 5 (some b))) else none := r_putP (ci := 2) (k := 5) (by decide +kernel : decode (mB 2) 33 = .ok (.putfield 21, 3)) (by decide +kernel) rfl rfl
theorem t2_36 : rn 2 36 (some (.ref a) :: l) r M = rn 2 37 (some (.ref a) :: l) (.ref a :: r) M := r_aload_n (by decide +kernel : decode (mB 2) 36 = .ok (.aload_n 0, 1)) rfl
theorem t2_37 : rn 2 37 ls r M = rn 2 39 ls (.int 40 :: r) M := r_nx (by decide +kernel : decode (mB 2) 37 = .ok (.bipush 40, 2)) rfl rfl
theorem t2_39 : rn 2 39 ls (.int x :: r) M = if 0 ≤ x ∧ x ≤ 100000 then rn 2 41 ls (.ref (mS M) :: r) (nw M (2, x.toNatClampNeg) x.toNatClampNeg) else none := r_newJ (by decide +kernel : decode (mB 2) 39 = .ok (.newarray .long, 2))
theorem t2_41 : rn 2 41 ls (.ref b :: .ref a :: r) M = if mK M a = (12, 0) then rn 2 44 ls r (sP M a (va_up (mP M a) 6 (some b))) else none := r_putP (ci := 2) (k := 6) (by decide +kernel : decode (mB 2) 41 = .ok (.putfield 25, 3)) (by decide +kernel) rfl rfl
theorem t2_44 : rn 2 44 ls [] M = some (none, M) := r_vreturn (by decide +kernel : decode (mB 2) 44 = .ok (.return_, 1)) rfl
-- 3 Replay_init()V
theorem t3_0 : rn 3 0 (some (.ref a) :: l) r M = rn 3 1 (some (.ref a) :: l) (.ref a :: r) M := r_aload_n (by decide +kernel : decode (mB 3) 0 = .ok (.aload_n 0, 1)) rfl
theorem t3_1 : rn 3 1 ls [.ref a] M = rn 3 4 ls [] M := r_obj (by decide +kernel : decode (mB 3) 1 = .ok (.invokespecial 3, 3)) (by decide +kernel) (by decide)
theorem t3_4 : rn 3 4 (some (.ref a) :: l) r M = rn 3 5 (some (.ref a) :: l) (.ref a :: r) M := r_aload_n (by decide +kernel : decode (mB 3) 4 = .ok (.aload_n 0, 1)) rfl
theorem t3_5 : rn 3 5 ls r M = rn 3 7 ls (.int 40 :: r) M := r_nx (by decide +kernel : decode (mB 3) 5 = .ok (.bipush 40, 2)) rfl rfl
theorem t3_7 : rn 3 7 ls (.int x :: r) M = if 0 ≤ x ∧ x ≤ 100000 then rn 3 9 ls (.ref (mS M) :: r) (nw M (1, x.toNatClampNeg) x.toNatClampNeg) else none := r_newI (by decide +kernel : decode (mB 3) 7 = .ok (.newarray .int, 2))
theorem t3_9 : rn 3 9 ls (.ref b :: .ref a :: r) M = if mK M a = (13, 0) then rn 3 12 ls r (sP M a (va_up (mP M a) 4 (some b))) else none := r_putP (ci := 3) (k := 4) (by decide +kernel : decode (mB 3) 9 = .ok (.putfield 9, 3)) (by decide +kernel) rfl rfl
theorem t3_12 : rn 3 12 (some (.ref a) :: l) r M = rn 3 13 (some (.ref a) :: l) (.ref a :: r) M := r_aload_n (by decide +kernel : decode (mB 3) 12 = .ok (.aload_n 0, 1)) rfl
theorem t3_13 : rn 3 13 ls r M = rn 3 15 ls (.int 40 :: r) M := r_nx (by decide +kernel : decode (mB 3) 13 = .ok (.bipush 40, 2)) rfl rfl
theorem t3_15 : rn 3 15 ls (.int x :: r) M = if 0 ≤ x ∧ x ≤ 100000 then rn 3 17 ls (.ref (mS M) :: r) (nw M (1, x.toNatClampNeg) x.toNatClampNeg) else none := r_newI (by decide +kernel : decode (mB 3) 15 = .ok (.newarray .int, 2))
theorem t3_17 : rn 3 17 ls (.ref b :: .ref a :: r) M = if mK M a = (13, 0) then rn 3 20 ls r (sP M a (va_up (mP M a) 5 (some b))) else none := r_putP (ci := 3) (k := 5) (by decide +kernel : decode (mB 3) 17 = .ok (.putfield 15, 3)) (by decide +kernel) rfl rfl
theorem t3_20 : rn 3 20 (some (.ref a) :: l) r M = rn 3 21 (some (.ref a) :: l) (.ref a :: r) M := r_aload_n (by decide +kernel : decode (mB 3) 20 = .ok (.aload_n 0, 1)) rfl
theorem t3_21 : rn 3 21 ls r M = rn 3 24 ls (.ref (mS M) :: r) (nw M (14, 0) 2) := r_new (ci := 4) (by decide +kernel : decode (mB 3) 21 = .ok (.new 18, 3)) (by decide +kernel) (by decide)
theorem t3_24 : rn 3 24 ls (.ref a :: r) M = rn 3 25 ls (.ref a :: .ref a :: r) M := r_nx (by decide +kernel : decode (mB 3) 24 = .ok (.dup, 1)) rfl rfl
theorem t3_25 : rn 3 25 ls [.ref a, .ref b, .ref c] M = cbn (cl 4 [.ref a] M) 3 28 ls [.ref b, .ref c] := r_callI (kd := 4) (by decide +kernel : decode (mB 3) 25 = .ok (.invokespecial 20, 3)) (by decide +kernel) (by decide +kernel) ((doI_n np_4).trans rfl)
theorem t3_28 : rn 3 28 ls (.ref b :: .ref a :: r) M = if mK M a = (13, 0) then rn 3 31 ls r (sP M a (va_up (mP M a) 6 (some b))) else none := r_putP (ci := 3) (k := 6) (by decide +kernel : decode (mB 3) 28 = .ok (.putfield 21, 3)) (by decide +kernel) rfl rfl
theorem t3_31 : rn 3 31 (some (.ref a) :: l) r M = rn 3 32 (some (.ref a) :: l) (.ref a :: r) M := r_aload_n (by decide +kernel : decode (mB 3) 31 = .ok (.aload_n 0, 1)) rfl
theorem t3_32 : rn 3 32 ls [.ref a] M = if mK M a = (13, 0) then cbn (cl 7 [.ref a] M) 3 35 ls [] else none := r_callV (kd := 0) (by decide +kernel : decode (mB 3) 32 = .ok (.invokevirtual 25, 3)) (by decide +kernel) ((doV_n np_7).trans rfl)
theorem t3_35 : rn 3 35 ls [] M = some (none, M) := r_vreturn (by decide +kernel : decode (mB 3) 35 = .ok (.return_, 1)) rfl
-- 4 Tree_init()V
theorem t4_0 : rn 4 0 (some (.ref a) :: l) r M = rn 4 1 (some (.ref a) :: l) (.ref a :: r) M := r_aload_n (by decide +kernel : decode (mB 4) 0 = .ok (.aload_n 0, 1)) rfl
theorem t4_1 : rn 4 1 ls [.ref a] M = rn 4 4 ls [] M := r_obj (by decide +kernel : decode (mB 4) 1 = .ok (.invokespecial 3, 3)) (by decide +kernel) (by decide)
theorem t4_4 : rn 4 4 (some (.ref a) :: l) r M = rn 4 5 (some (.ref a) :: l) (.ref a :: r) M := r_aload_n (by decide +kernel : decode (mB 4) 4 = .ok (.aload_n 0, 1)) rfl
theorem t4_5 : rn 4 5 ls r M = rn 4 7 ls (.int 16 :: r) M := r_nx (by decide +kernel : decode (mB 4) 5 = .ok (.bipush 16, 2)) rfl rfl
theorem t4_7 : rn 4 7 ls (.int x :: r) M = if 0 ≤ x ∧ x ≤ 100000 then rn 4 9 ls (.ref (mS M) :: r) (nw M (1, x.toNatClampNeg) x.toNatClampNeg) else none := r_newI (by decide +kernel : decode (mB 4) 7 = .ok (.newarray .int, 2))
theorem t4_9 : rn 4 9 ls (.ref b :: .ref a :: r) M = if mK M a = (14, 0) then rn 4 12 ls r (sP M a (va_up (mP M a) 0 (some b))) else none := r_putP (ci := 4) (k := 0) (by decide +kernel : decode (mB 4) 9 = .ok (.putfield 9, 3)) (by decide +kernel) rfl rfl
theorem t4_12 : rn 4 12 (some (.ref a) :: l) r M = rn 4 13 (some (.ref a) :: l) (.ref a :: r) M := r_aload_n (by decide +kernel : decode (mB 4) 12 = .ok (.aload_n 0, 1)) rfl
theorem t4_13 : rn 4 13 ls r M = rn 4 15 ls (.int 16 :: r) M := r_nx (by decide +kernel : decode (mB 4) 13 = .ok (.bipush 16, 2)) rfl rfl
theorem t4_15 : rn 4 15 ls (.int x :: r) M = if 0 ≤ x ∧ x ≤ 100000 then rn 4 17 ls (.ref (mS M) :: r) (nw M (1, x.toNatClampNeg) x.toNatClampNeg) else none := r_newI (by decide +kernel : decode (mB 4) 15 = .ok (.newarray .int, 2))
theorem t4_17 : rn 4 17 ls (.ref b :: .ref a :: r) M = if mK M a = (14, 0) then rn 4 20 ls r (sP M a (va_up (mP M a) 1 (some b))) else none := r_putP (ci := 4) (k := 1) (by decide +kernel : decode (mB 4) 17 = .ok (.putfield 15, 3)) (by decide +kernel) rfl rfl
theorem t4_20 : rn 4 20 (some (.ref a) :: l) r M = rn 4 21 (some (.ref a) :: l) (.ref a :: r) M := r_aload_n (by decide +kernel : decode (mB 4) 20 = .ok (.aload_n 0, 1)) rfl
theorem t4_21 : rn 4 21 ls [.ref a] M = if mK M a = (14, 0) then cbn (cl 5 [.ref a] M) 4 24 ls [] else none := r_callV (kd := 0) (by decide +kernel : decode (mB 4) 21 = .ok (.invokevirtual 18, 3)) (by decide +kernel) ((doV_n np_5).trans rfl)
theorem t4_24 : rn 4 24 ls [] M = some (none, M) := r_vreturn (by decide +kernel : decode (mB 4) 24 = .ok (.return_, 1)) rfl
-- 8 History_init()V
theorem t8_0 : rn 8 0 (some (.ref a) :: l) r M = rn 8 1 (some (.ref a) :: l) (.ref a :: r) M := r_aload_n (by decide +kernel : decode (mB 8) 0 = .ok (.aload_n 0, 1)) rfl
theorem t8_1 : rn 8 1 ls [.ref a] M = rn 8 4 ls [] M := r_obj (by decide +kernel : decode (mB 8) 1 = .ok (.invokespecial 3, 3)) (by decide +kernel) (by decide)
theorem t8_4 : rn 8 4 (some (.ref a) :: l) r M = rn 8 5 (some (.ref a) :: l) (.ref a :: r) M := r_aload_n (by decide +kernel : decode (mB 8) 4 = .ok (.aload_n 0, 1)) rfl
theorem t8_5 : rn 8 5 ls r M = rn 8 7 ls (.int 7 :: r) M := r_nx (by decide +kernel : decode (mB 8) 5 = .ok (.bipush 7, 2)) rfl rfl
theorem t8_7 : rn 8 7 ls (.int x :: r) M = if 0 ≤ x ∧ x ≤ 100000 then rn 8 10 ls (.ref (mS M) :: r) (nw M (3, x.toNatClampNeg) x.toNatClampNeg) else none := r_newP (k := 3) (by decide) (by decide +kernel : decode (mB 8) 7 = .ok (.anewarray 11, 3)) (by decide +kernel)
theorem t8_10 : rn 8 10 ls (.ref b :: .ref a :: r) M = if mK M a = (15, 0) then rn 8 13 ls r (sP M a (va_up (mP M a) 0 (some b))) else none := r_putP (ci := 5) (k := 0) (by decide +kernel : decode (mB 8) 10 = .ok (.putfield 13, 3)) (by decide +kernel) rfl rfl
theorem t8_13 : rn 8 13 ls r M = rn 8 14 ls (.int 0 :: r) M := r_nx (by decide +kernel : decode (mB 8) 13 = .ok (.iconst 0, 1)) rfl rfl
theorem t8_14 : rn 8 14 (a0 :: a1 :: l) (.int x :: r) M = rn 8 15 (a0 :: some (.int x) :: l) r M := r_istore_n (by decide +kernel : decode (mB 8) 14 = .ok (.istore_n 1, 1)) (Nat.le_add_left 2 l.length)
theorem t8_15 : rn 8 15 (a0 :: some (.int x) :: l) r M = rn 8 16 (a0 :: some (.int x) :: l) (.int x :: r) M := r_iload_n (by decide +kernel : decode (mB 8) 15 = .ok (.iload_n 1, 1)) rfl
theorem t8_16 : rn 8 16 ls r M = rn 8 18 ls (.int 7 :: r) M := r_nx (by decide +kernel : decode (mB 8) 16 = .ok (.bipush 7, 2)) rfl rfl
theorem t8_18 : rn 8 18 ls (.int y :: .int x :: r) M = if y ≤ x then rn 8 40 ls r M else rn 8 21 ls r M := r_if (o := 22) (r := r) (c := y ≤ x) (by decide +kernel : decode (mB 8) 18 = .ok (.if_icmp .ge 22, 3)) rfl (by decide) rfl
theorem t8_21 : rn 8 21 (some (.ref a) :: l) r M = rn 8 22 (some (.ref a) :: l) (.ref a :: r) M := r_aload_n (by decide +kernel : decode (mB 8) 21 = .ok (.aload_n 0, 1)) rfl
theorem t8_22 : rn 8 22 ls (.ref a :: r) M = if mK M a = (15, 0) then rn 8 25 ls (va_rf (mP M a 0) :: r) M else none := r_getP (ci := 5) (k := 0) (by decide +kernel : decode (mB 8) 22 = .ok (.getfield 13, 3)) (by decide +kernel) rfl
theorem t8_25 : rn 8 25 (a0 :: some (.int x) :: l) r M = rn 8 26 (a0 :: some (.int x) :: l) (.int x :: r) M := r_iload_n (by decide +kernel : decode (mB 8) 25 = .ok (.iload_n 1, 1)) rfl
theorem t8_26 : rn 8 26 ls r M = rn 8 29 ls (.ref (mS M) :: r) (nw M (11, 0) 2) := r_new (ci := 1) (by decide +kernel : decode (mB 8) 26 = .ok (.new 11, 3)) (by decide +kernel) (by decide)
theorem t8_29 : rn 8 29 ls (.ref a :: r) M = rn 8 30 ls (.ref a :: .ref a :: r) M := r_nx (by decide +kernel : decode (mB 8) 29 = .ok (.dup, 1)) rfl rfl
theorem t8_30 : rn 8 30 ls [.ref a, .ref b, .int x, .ref c] M = cbn (cl 1 [.ref a] M) 8 33 ls [.ref b, .int x, .ref c] := r_callI (kd := 5) (by decide +kernel : decode (mB 8) 30 = .ok (.invokespecial 17, 3)) (by decide +kernel) (by decide +kernel) ((doI_n np_1).trans rfl)
theorem t8_33 : rn 8 33 ls (.ref b :: .int x :: .ref a :: r) M = if ((mK M a = (3, (mK M a).2) ∧ mK M b = (10 + aoC 3, 0)) ∨ (mK M a = (4, (mK M a).2) ∧ mK M b = (10 + aoC 4, 0))) ∧ inR x (mK M a).2 then rn 8 34 ls r (sP M a (va_up (mP M a) x.toNatClampNeg (some b))) else none := r_cnd (by decide +kernel : decode (mB 8) 33 = .ok (.aastore, 1)) rfl rfl
theorem t8_34 : rn 8 34 (a0 :: some (.int x) :: l) r M = rn 8 37 (a0 :: some (.int (x + 1)) :: l) r M := r_iinc (by decide +kernel : decode (mB 8) 34 = .ok (.iinc 1 1, 3)) rfl
theorem t8_37 : rn 8 37 ls r M = rn 8 15 ls r M := r_goto (o := (-22)) (by decide +kernel : decode (mB 8) 37 = .ok (.goto (-22), 3)) (by decide)
theorem t8_40 : rn 8 40 ls [] M = some (none, M) := r_vreturn (by decide +kernel : decode (mB 8) 40 = .ok (.return_, 1)) rfl
-- 9 Reader_init()V
theorem t9_0 : rn 9 0 (some (.ref a) :: l) r M = rn 9 1 (some (.ref a) :: l) (.ref a :: r) M := r_aload_n (by decide +kernel : decode (mB 9) 0 = .ok (.aload_n 0, 1)) rfl
theorem t9_1 : rn 9 1 ls [.ref a] M = rn 9 4 ls [] M := r_obj (by decide +kernel : decode (mB 9) 1 = .ok (.invokespecial 3, 3)) (by decide +kernel) (by decide)
theorem t9_4 : rn 9 4 (some (.ref a) :: l) r M = rn 9 5 (some (.ref a) :: l) (.ref a :: r) M := r_aload_n (by decide +kernel : decode (mB 9) 4 = .ok (.aload_n 0, 1)) rfl
theorem t9_5 : rn 9 5 ls r M = rn 9 8 ls (.ref (mS M) :: r) (nw M (17, 0) 2) := r_new (ci := 7) (by decide +kernel : decode (mB 9) 5 = .ok (.new 9, 3)) (by decide +kernel) (by decide)
theorem t9_8 : rn 9 8 ls (.ref a :: r) M = rn 9 9 ls (.ref a :: .ref a :: r) M := r_nx (by decide +kernel : decode (mB 9) 8 = .ok (.dup, 1)) rfl rfl
theorem t9_9 : rn 9 9 ls [.ref a, .ref b, .ref c] M = cbn (cl 10 [.ref a] M) 9 12 ls [.ref b, .ref c] := r_callI (kd := 5) (by decide +kernel : decode (mB 9) 9 = .ok (.invokespecial 11, 3)) (by decide +kernel) (by decide +kernel) ((doI_n np_10).trans rfl)
theorem t9_12 : rn 9 12 ls (.ref b :: .ref a :: r) M = if mK M a = (16, 0) then rn 9 15 ls r (sP M a (va_up (mP M a) 0 (some b))) else none := r_putP (ci := 6) (k := 0) (by decide +kernel : decode (mB 9) 12 = .ok (.putfield 12, 3)) (by decide +kernel) rfl rfl
theorem t9_15 : rn 9 15 ls [] M = some (none, M) := r_vreturn (by decide +kernel : decode (mB 9) 15 = .ok (.return_, 1)) rfl
-- 10 Pad_init()V
theorem t10_0 : rn 10 0 (some (.ref a) :: l) r M = rn 10 1 (some (.ref a) :: l) (.ref a :: r) M := r_aload_n (by decide +kernel : decode (mB 10) 0 = .ok (.aload_n 0, 1)) rfl
theorem t10_1 : rn 10 1 ls [.ref a] M = rn 10 4 ls [] M := r_obj (by decide +kernel : decode (mB 10) 1 = .ok (.invokespecial 3, 3)) (by decide +kernel) (by decide)
theorem t10_4 : rn 10 4 (some (.ref a) :: l) r M = rn 10 5 (some (.ref a) :: l) (.ref a :: r) M := r_aload_n (by decide +kernel : decode (mB 10) 4 = .ok (.aload_n 0, 1)) rfl
theorem t10_5 : rn 10 5 ls r M = rn 10 7 ls (.int 80 :: r) M := r_nx (by decide +kernel : decode (mB 10) 5 = .ok (.bipush 80, 2)) rfl rfl
theorem t10_7 : rn 10 7 ls (.int x :: r) M = if 0 ≤ x ∧ x ≤ 100000 then rn 10 9 ls (.ref (mS M) :: r) (nw M (1, x.toNatClampNeg) x.toNatClampNeg) else none := r_newI (by decide +kernel : decode (mB 10) 7 = .ok (.newarray .int, 2))
theorem t10_9 : rn 10 9 ls (.ref b :: .ref a :: r) M = if mK M a = (17, 0) then rn 10 12 ls r (sP M a (va_up (mP M a) 0 (some b))) else none := r_putP (ci := 7) (k := 0) (by decide +kernel : decode (mB 10) 9 = .ok (.putfield 9, 3)) (by decide +kernel) rfl rfl
theorem t10_12 : rn 10 12 ls [] M = some (none, M) := r_vreturn (by decide +kernel : decode (mB 10) 12 = .ok (.return_, 1)) rfl
-- 11 Slot_init()V
theorem t11_0 : rn 11 0 (some (.ref a) :: l) r M = rn 11 1 (some (.ref a) :: l) (.ref a :: r) M := r_aload_n (by decide +kernel : decode (mB 11) 0 = .ok (.aload_n 0, 1)) rfl
theorem t11_1 : rn 11 1 ls [.ref a] M = rn 11 4 ls [] M := r_obj (by decide +kernel : decode (mB 11) 1 = .ok (.invokespecial 1, 3)) (by decide +kernel) (by decide)
theorem t11_4 : rn 11 4 (some (.ref a) :: l) r M = rn 11 5 (some (.ref a) :: l) (.ref a :: r) M := r_aload_n (by decide +kernel : decode (mB 11) 4 = .ok (.aload_n 0, 1)) rfl
theorem t11_5 : rn 11 5 ls r M = rn 11 8 ls (.ref (mS M) :: r) (nw M (11, 0) 2) := r_new (ci := 1) (by decide +kernel : decode (mB 11) 5 = .ok (.new 7, 3)) (by decide +kernel) (by decide)
theorem t11_8 : rn 11 8 ls (.ref a :: r) M = rn 11 9 ls (.ref a :: .ref a :: r) M := r_nx (by decide +kernel : decode (mB 11) 8 = .ok (.dup, 1)) rfl rfl
theorem t11_9 : rn 11 9 ls [.ref a, .ref b, .ref c] M = cbn (cl 1 [.ref a] M) 11 12 ls [.ref b, .ref c] := r_callI (kd := 5) (by decide +kernel : decode (mB 11) 9 = .ok (.invokespecial 9, 3)) (by decide +kernel) (by decide +kernel) ((doI_n np_1).trans rfl)
theorem t11_12 : rn 11 12 ls (.ref b :: .ref a :: r) M = if mK M a = (18, 0) then rn 11 15 ls r (sP M a (va_up (mP M a) 0 (some b))) else none := r_putP (ci := 8) (k := 0) (by decide +kernel : decode (mB 11) 12 = .ok (.putfield 10, 3)) (by decide +kernel) rfl rfl
theorem t11_15 : rn 11 15 ls [] M = some (none, M) := r_vreturn (by decide +kernel : decode (mB 11) 15 = .ok (.return_, 1)) rfl
-- 6 Arrays_fill([II)V
theorem t6_0 : rn 6 0 ls r M = rn 6 1 ls (.int 0 :: r) M := r_nx (by decide +kernel : decode (mB 6) 0 = .ok (.iconst 0, 1)) rfl rfl
theorem t6_1 : rn 6 1 (a0 :: a1 :: a2 :: l) (.int x :: r) M = rn 6 2 (a0 :: a1 :: some (.int x) :: l) r M := r_istore_n (by decide +kernel : decode (mB 6) 1 = .ok (.istore_n 2, 1)) (Nat.le_add_left 3 l.length)
theorem t6_2 : rn 6 2 (some (.ref a) :: l) r M = rn 6 3 (some (.ref a) :: l) (.ref a :: r) M := r_aload_n (by decide +kernel : decode (mB 6) 2 = .ok (.aload_n 0, 1)) rfl
theorem t6_3 : rn 6 3 ls (.ref a :: r) M = if (mK M a).1 = 1 ∨ (mK M a).1 = 5 then rn 6 4 ls (.int (Int32.ofNat (mK M a).2) :: r) M else none := r_cnd (by decide +kernel : decode (mB 6) 3 = .ok (.arraylength, 1)) rfl rfl
theorem t6_4 : rn 6 4 (a0 :: a1 :: a2 :: a3 :: l) (.int x :: r) M = rn 6 5 (a0 :: a1 :: a2 :: some (.int x) :: l) r M := r_istore_n (by decide +kernel : decode (mB 6) 4 = .ok (.istore_n 3, 1)) (Nat.le_add_left 4 l.length)
theorem t6_5 : rn 6 5 (a0 :: a1 :: some (.int x) :: l) r M = rn 6 6 (a0 :: a1 :: some (.int x) :: l) (.int x :: r) M := r_iload_n (by decide +kernel : decode (mB 6) 5 = .ok (.iload_n 2, 1)) rfl
theorem t6_6 : rn 6 6 (a0 :: a1 :: a2 :: some (.int x) :: l) r M = rn 6 7 (a0 :: a1 :: a2 :: some (.int x) :: l) (.int x :: r) M := r_iload_n (by decide +kernel : decode (mB 6) 6 = .ok (.iload_n 3, 1)) rfl
theorem t6_7 : rn 6 7 ls (.int y :: .int x :: r) M = if y ≤ x then rn 6 20 ls r M else rn 6 10 ls r M := r_if (o := 13) (r := r) (c := y ≤ x) (by decide +kernel : decode (mB 6) 7 = .ok (.if_icmp .ge 13, 3)) rfl (by decide) rfl
theorem t6_10 : rn 6 10 (some (.ref a) :: l) r M = rn 6 11 (some (.ref a) :: l) (.ref a :: r) M := r_aload_n (by decide +kernel : decode (mB 6) 10 = .ok (.aload_n 0, 1)) rfl
theorem t6_11 : rn 6 11 (a0 :: a1 :: some (.int x) :: l) r M = rn 6 12 (a0 :: a1 :: some (.int x) :: l) (.int x :: r) M := r_iload_n (by decide +kernel : decode (mB 6) 11 = .ok (.iload_n 2, 1)) rfl
theorem t6_12 : rn 6 12 (a0 :: some (.int x) :: l) r M = rn 6 13 (a0 :: some (.int x) :: l) (.int x :: r) M := r_iload_n (by decide +kernel : decode (mB 6) 12 = .ok (.iload_n 1, 1)) rfl
theorem t6_13 : rn 6 13 ls (.int y :: .int x :: .ref a :: r) M = if (mK M a).1 = 1 ∧ inR x (mK M a).2 then rn 6 14 ls r (sI M a (va_up (mI M a) x.toNatClampNeg y)) else none := r_cnd (by decide +kernel : decode (mB 6) 13 = .ok (.iastore, 1)) rfl rfl
theorem t6_14 : rn 6 14 (a0 :: a1 :: some (.int x) :: l) r M = rn 6 17 (a0 :: a1 :: some (.int (x + 1)) :: l) r M := r_iinc (by decide +kernel : decode (mB 6) 14 = .ok (.iinc 2 1, 3)) rfl
theorem t6_17 : rn 6 17 ls r M = rn 6 5 ls r M := r_goto (o := (-12)) (by decide +kernel : decode (mB 6) 17 = .ok (.goto (-12), 3)) (by decide)
theorem t6_20 : rn 6 20 ls [] M = some (none, M) := r_vreturn (by decide +kernel : decode (mB 6) 20 = .ok (.return_, 1)) rfl
-- 30 Math_min(II)I
theorem t30_0 : rn 30 0 (some (.int x) :: l) r M = rn 30 1 (some (.int x) :: l) (.int x :: r) M := r_iload_n (by decide +kernel : decode (mB 30) 0 = .ok (.iload_n 0, 1)) rfl
theorem t30_1 : rn 30 1 (a0 :: some (.int x) :: l) r M = rn 30 2 (a0 :: some (.int x) :: l) (.int x :: r) M := r_iload_n (by decide +kernel : decode (mB 30) 1 = .ok (.iload_n 1, 1)) rfl
theorem t30_2 : rn 30 2 ls (.int y :: .int x :: r) M = if y < x then rn 30 9 ls r M else rn 30 5 ls r M := r_if (o := 7) (r := r) (c := y < x) (by decide +kernel : decode (mB 30) 2 = .ok (.if_icmp .gt 7, 3)) rfl (by decide) rfl
theorem t30_5 : rn 30 5 (some (.int x) :: l) r M = rn 30 6 (some (.int x) :: l) (.int x :: r) M := r_iload_n (by decide +kernel : decode (mB 30) 5 = .ok (.iload_n 0, 1)) rfl
theorem t30_6 : rn 30 6 ls r M = rn 30 10 ls r M := r_goto (o := 4) (by decide +kernel : decode (mB 30) 6 = .ok (.goto 4, 3)) (by decide)
theorem t30_9 : rn 30 9 (a0 :: some (.int x) :: l) r M = rn 30 10 (a0 :: some (.int x) :: l) (.int x :: r) M := r_iload_n (by decide +kernel : decode (mB 30) 9 = .ok (.iload_n 1, 1)) rfl
theorem t30_10 : rn 30 10 ls [.int x] M = some (some (.int x), M) := r_ireturn (by decide +kernel : decode (mB 30) 10 = .ok (.ireturn, 1)) rfl
-- 37 Long_bitCount(J)I
theorem t37_0 : rn 37 0 (some (.long u) :: none :: l) r M = rn 37 1 (some (.long u) :: none :: l) (.long u :: r) M := r_lload_n (by decide +kernel : decode (mB 37) 0 = .ok (.lload_n 0, 1)) rfl rfl
theorem t37_1 : rn 37 1 (some (.long u) :: none :: l) r M = rn 37 2 (some (.long u) :: none :: l) (.long u :: r) M := r_lload_n (by decide +kernel : decode (mB 37) 1 = .ok (.lload_n 0, 1)) rfl rfl
theorem t37_2 : rn 37 2 ls r M = rn 37 3 ls (.int 1 :: r) M := r_nx (by decide +kernel : decode (mB 37) 2 = .ok (.iconst 1, 1)) rfl rfl
theorem t37_3 : rn 37 3 ls (.int y :: .long u :: r) M = rn 37 4 ls (.long ((u.toUInt64 >>> (y.toInt64.toUInt64 &&& Int64.toUInt64 63)).toInt64) :: r) M := r_nx (by decide +kernel : decode (mB 37) 3 = .ok (.lushr, 1)) rfl rfl
theorem t37_4 : rn 37 4 ls r M = rn 37 7 ls (.long 6148914691236517205 :: r) M := r_nx (by decide +kernel : decode (mB 37) 4 = .ok (.ldc2_w 314, 3)) rfl rfl
theorem t37_7 : rn 37 7 ls (.long v :: .long u :: r) M = rn 37 8 ls (.long (u &&& v) :: r) M := r_nx (by decide +kernel : decode (mB 37) 7 = .ok (.land, 1)) rfl rfl
theorem t37_8 : rn 37 8 ls (.long v :: .long u :: r) M = rn 37 9 ls (.long (u - v) :: r) M := r_nx (by decide +kernel : decode (mB 37) 8 = .ok (.lsub, 1)) rfl rfl
theorem t37_9 : rn 37 9 (a0 :: a1 :: l) (.long u :: r) M = rn 37 10 (some (.long u) :: none :: l) r M := r_lstore_n (by decide +kernel : decode (mB 37) 9 = .ok (.lstore_n 0, 1)) (Nat.le_add_left 2 l.length)
theorem t37_10 : rn 37 10 (some (.long u) :: none :: l) r M = rn 37 11 (some (.long u) :: none :: l) (.long u :: r) M := r_lload_n (by decide +kernel : decode (mB 37) 10 = .ok (.lload_n 0, 1)) rfl rfl
theorem t37_11 : rn 37 11 ls r M = rn 37 14 ls (.long 3689348814741910323 :: r) M := r_nx (by decide +kernel : decode (mB 37) 11 = .ok (.ldc2_w 316, 3)) rfl rfl
theorem t37_14 : rn 37 14 ls (.long v :: .long u :: r) M = rn 37 15 ls (.long (u &&& v) :: r) M := r_nx (by decide +kernel : decode (mB 37) 14 = .ok (.land, 1)) rfl rfl
theorem t37_15 : rn 37 15 (some (.long u) :: none :: l) r M = rn 37 16 (some (.long u) :: none :: l) (.long u :: r) M := r_lload_n (by decide +kernel : decode (mB 37) 15 = .ok (.lload_n 0, 1)) rfl rfl
theorem t37_16 : rn 37 16 ls r M = rn 37 17 ls (.int 2 :: r) M := r_nx (by decide +kernel : decode (mB 37) 16 = .ok (.iconst 2, 1)) rfl rfl
theorem t37_17 : rn 37 17 ls (.int y :: .long u :: r) M = rn 37 18 ls (.long ((u.toUInt64 >>> (y.toInt64.toUInt64 &&& Int64.toUInt64 63)).toInt64) :: r) M := r_nx (by decide +kernel : decode (mB 37) 17 = .ok (.lushr, 1)) rfl rfl
theorem t37_18 : rn 37 18 ls r M = rn 37 21 ls (.long 3689348814741910323 :: r) M := r_nx (by decide +kernel : decode (mB 37) 18 = .ok (.ldc2_w 316, 3)) rfl rfl
theorem t37_21 : rn 37 21 ls (.long v :: .long u :: r) M = rn 37 22 ls (.long (u &&& v) :: r) M := r_nx (by decide +kernel : decode (mB 37) 21 = .ok (.land, 1)) rfl rfl
theorem t37_22 : rn 37 22 ls (.long v :: .long u :: r) M = rn 37 23 ls (.long (u + v) :: r) M := r_nx (by decide +kernel : decode (mB 37) 22 = .ok (.ladd, 1)) rfl rfl
theorem t37_23 : rn 37 23 (a0 :: a1 :: l) (.long u :: r) M = rn 37 24 (some (.long u) :: none :: l) r M := r_lstore_n (by decide +kernel : decode (mB 37) 23 = .ok (.lstore_n 0, 1)) (Nat.le_add_left 2 l.length)
theorem t37_24 : rn 37 24 (some (.long u) :: none :: l) r M = rn 37 25 (some (.long u) :: none :: l) (.long u :: r) M := r_lload_n (by decide +kernel : decode (mB 37) 24 = .ok (.lload_n 0, 1)) rfl rfl
theorem t37_25 : rn 37 25 (some (.long u) :: none :: l) r M = rn 37 26 (some (.long u) :: none :: l) (.long u :: r) M := r_lload_n (by decide +kernel : decode (mB 37) 25 = .ok (.lload_n 0, 1)) rfl rfl
theorem t37_26 : rn 37 26 ls r M = rn 37 27 ls (.int 4 :: r) M := r_nx (by decide +kernel : decode (mB 37) 26 = .ok (.iconst 4, 1)) rfl rfl
theorem t37_27 : rn 37 27 ls (.int y :: .long u :: r) M = rn 37 28 ls (.long ((u.toUInt64 >>> (y.toInt64.toUInt64 &&& Int64.toUInt64 63)).toInt64) :: r) M := r_nx (by decide +kernel : decode (mB 37) 27 = .ok (.lushr, 1)) rfl rfl
theorem t37_28 : rn 37 28 ls (.long v :: .long u :: r) M = rn 37 29 ls (.long (u + v) :: r) M := r_nx (by decide +kernel : decode (mB 37) 28 = .ok (.ladd, 1)) rfl rfl
theorem t37_29 : rn 37 29 ls r M = rn 37 32 ls (.long 1085102592571150095 :: r) M := r_nx (by decide +kernel : decode (mB 37) 29 = .ok (.ldc2_w 318, 3)) rfl rfl
theorem t37_32 : rn 37 32 ls (.long v :: .long u :: r) M = rn 37 33 ls (.long (u &&& v) :: r) M := r_nx (by decide +kernel : decode (mB 37) 32 = .ok (.land, 1)) rfl rfl
theorem t37_33 : rn 37 33 (a0 :: a1 :: l) (.long u :: r) M = rn 37 34 (some (.long u) :: none :: l) r M := r_lstore_n (by decide +kernel : decode (mB 37) 33 = .ok (.lstore_n 0, 1)) (Nat.le_add_left 2 l.length)
theorem t37_34 : rn 37 34 (some (.long u) :: none :: l) r M = rn 37 35 (some (.long u) :: none :: l) (.long u :: r) M := r_lload_n (by decide +kernel : decode (mB 37) 34 = .ok (.lload_n 0, 1)) rfl rfl
theorem t37_35 : rn 37 35 (some (.long u) :: none :: l) r M = rn 37 36 (some (.long u) :: none :: l) (.long u :: r) M := r_lload_n (by decide +kernel : decode (mB 37) 35 = .ok (.lload_n 0, 1)) rfl rfl
theorem t37_36 : rn 37 36 ls r M = rn 37 38 ls (.int 8 :: r) M := r_nx (by decide +kernel : decode (mB 37) 36 = .ok (.bipush 8, 2)) rfl rfl
theorem t37_38 : rn 37 38 ls (.int y :: .long u :: r) M = rn 37 39 ls (.long ((u.toUInt64 >>> (y.toInt64.toUInt64 &&& Int64.toUInt64 63)).toInt64) :: r) M := r_nx (by decide +kernel : decode (mB 37) 38 = .ok (.lushr, 1)) rfl rfl
theorem t37_39 : rn 37 39 ls (.long v :: .long u :: r) M = rn 37 40 ls (.long (u + v) :: r) M := r_nx (by decide +kernel : decode (mB 37) 39 = .ok (.ladd, 1)) rfl rfl
theorem t37_40 : rn 37 40 (a0 :: a1 :: l) (.long u :: r) M = rn 37 41 (some (.long u) :: none :: l) r M := r_lstore_n (by decide +kernel : decode (mB 37) 40 = .ok (.lstore_n 0, 1)) (Nat.le_add_left 2 l.length)
theorem t37_41 : rn 37 41 (some (.long u) :: none :: l) r M = rn 37 42 (some (.long u) :: none :: l) (.long u :: r) M := r_lload_n (by decide +kernel : decode (mB 37) 41 = .ok (.lload_n 0, 1)) rfl rfl
theorem t37_42 : rn 37 42 (some (.long u) :: none :: l) r M = rn 37 43 (some (.long u) :: none :: l) (.long u :: r) M := r_lload_n (by decide +kernel : decode (mB 37) 42 = .ok (.lload_n 0, 1)) rfl rfl
theorem t37_43 : rn 37 43 ls r M = rn 37 45 ls (.int 16 :: r) M := r_nx (by decide +kernel : decode (mB 37) 43 = .ok (.bipush 16, 2)) rfl rfl
theorem t37_45 : rn 37 45 ls (.int y :: .long u :: r) M = rn 37 46 ls (.long ((u.toUInt64 >>> (y.toInt64.toUInt64 &&& Int64.toUInt64 63)).toInt64) :: r) M := r_nx (by decide +kernel : decode (mB 37) 45 = .ok (.lushr, 1)) rfl rfl
theorem t37_46 : rn 37 46 ls (.long v :: .long u :: r) M = rn 37 47 ls (.long (u + v) :: r) M := r_nx (by decide +kernel : decode (mB 37) 46 = .ok (.ladd, 1)) rfl rfl
theorem t37_47 : rn 37 47 (a0 :: a1 :: l) (.long u :: r) M = rn 37 48 (some (.long u) :: none :: l) r M := r_lstore_n (by decide +kernel : decode (mB 37) 47 = .ok (.lstore_n 0, 1)) (Nat.le_add_left 2 l.length)
theorem t37_48 : rn 37 48 (some (.long u) :: none :: l) r M = rn 37 49 (some (.long u) :: none :: l) (.long u :: r) M := r_lload_n (by decide +kernel : decode (mB 37) 48 = .ok (.lload_n 0, 1)) rfl rfl
theorem t37_49 : rn 37 49 (some (.long u) :: none :: l) r M = rn 37 50 (some (.long u) :: none :: l) (.long u :: r) M := r_lload_n (by decide +kernel : decode (mB 37) 49 = .ok (.lload_n 0, 1)) rfl rfl
theorem t37_50 : rn 37 50 ls r M = rn 37 52 ls (.int 32 :: r) M := r_nx (by decide +kernel : decode (mB 37) 50 = .ok (.bipush 32, 2)) rfl rfl
theorem t37_52 : rn 37 52 ls (.int y :: .long u :: r) M = rn 37 53 ls (.long ((u.toUInt64 >>> (y.toInt64.toUInt64 &&& Int64.toUInt64 63)).toInt64) :: r) M := r_nx (by decide +kernel : decode (mB 37) 52 = .ok (.lushr, 1)) rfl rfl
theorem t37_53 : rn 37 53 ls (.long v :: .long u :: r) M = rn 37 54 ls (.long (u + v) :: r) M := r_nx (by decide +kernel : decode (mB 37) 53 = .ok (.ladd, 1)) rfl rfl
theorem t37_54 : rn 37 54 (a0 :: a1 :: l) (.long u :: r) M = rn 37 55 (some (.long u) :: none :: l) r M := r_lstore_n (by decide +kernel : decode (mB 37) 54 = .ok (.lstore_n 0, 1)) (Nat.le_add_left 2 l.length)
theorem t37_55 : rn 37 55 (some (.long u) :: none :: l) r M = rn 37 56 (some (.long u) :: none :: l) (.long u :: r) M := r_lload_n (by decide +kernel : decode (mB 37) 55 = .ok (.lload_n 0, 1)) rfl rfl
theorem t37_56 : rn 37 56 ls (.long u :: r) M = rn 37 57 ls (.int u.toInt32 :: r) M := r_nx (by decide +kernel : decode (mB 37) 56 = .ok (.l2i, 1)) rfl rfl
theorem t37_57 : rn 37 57 ls r M = rn 37 59 ls (.int 127 :: r) M := r_nx (by decide +kernel : decode (mB 37) 57 = .ok (.bipush 127, 2)) rfl rfl
theorem t37_59 : rn 37 59 ls (.int y :: .int x :: r) M = rn 37 60 ls (.int (x &&& y) :: r) M := r_nx (by decide +kernel : decode (mB 37) 59 = .ok (.iand, 1)) rfl rfl
theorem t37_60 : rn 37 60 ls [.int x] M = some (some (.int x), M) := r_ireturn (by decide +kernel : decode (mB 37) 60 = .ok (.ireturn, 1)) rfl
-- 56 Math_max(II)I
theorem t56_0 : rn 56 0 (some (.int x) :: l) r M = rn 56 1 (some (.int x) :: l) (.int x :: r) M := r_iload_n (by decide +kernel : decode (mB 56) 0 = .ok (.iload_n 0, 1)) rfl
theorem t56_1 : rn 56 1 (a0 :: some (.int x) :: l) r M = rn 56 2 (a0 :: some (.int x) :: l) (.int x :: r) M := r_iload_n (by decide +kernel : decode (mB 56) 1 = .ok (.iload_n 1, 1)) rfl
theorem t56_2 : rn 56 2 ls (.int y :: .int x :: r) M = if x < y then rn 56 9 ls r M else rn 56 5 ls r M := r_if (o := 7) (r := r) (c := x < y) (by decide +kernel : decode (mB 56) 2 = .ok (.if_icmp .lt 7, 3)) rfl (by decide) rfl
theorem t56_5 : rn 56 5 (some (.int x) :: l) r M = rn 56 6 (some (.int x) :: l) (.int x :: r) M := r_iload_n (by decide +kernel : decode (mB 56) 5 = .ok (.iload_n 0, 1)) rfl
theorem t56_6 : rn 56 6 ls r M = rn 56 10 ls r M := r_goto (o := 4) (by decide +kernel : decode (mB 56) 6 = .ok (.goto 4, 3)) (by decide)
theorem t56_9 : rn 56 9 (a0 :: some (.int x) :: l) r M = rn 56 10 (a0 :: some (.int x) :: l) (.int x :: r) M := r_iload_n (by decide +kernel : decode (mB 56) 9 = .ok (.iload_n 1, 1)) rfl
theorem t56_10 : rn 56 10 ls [.int x] M = some (some (.int x), M) := r_ireturn (by decide +kernel : decode (mB 56) 10 = .ok (.ireturn, 1)) rfl
end S0
