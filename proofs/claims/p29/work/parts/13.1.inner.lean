/-! step rows, by program (wip/p29/gen13.py): inner -/
section S1
variable {a0 a1 a2 a3 a4 a5 a6 a7 a8 a9 a10 a11 a12 a13 a14 a15 a16 a17 a18 a19 a20 a21 a22 a23 : Option Value} {l ls : List (Option Value)} {r : List Value} {M : SM} {x y z w p k : Int32} {u v s : Int64} {a b c d a30 a31 a32 a33 a34 : Nat}

-- 5 Tree_clear()V
theorem t5_0 : rn 5 0 (some (.ref a) :: l) r M = rn 5 1 (some (.ref a) :: l) (.ref a :: r) M := r_aload_n (by decide +kernel : decode (mB 5) 0 = .ok (.aload_n 0, 1)) rfl
theorem t5_1 : rn 5 1 ls (.ref a :: r) M = if mK M a = (14, 0) then rn 5 4 ls (va_rf (mP M a 0) :: r) M else none := r_getP (ci := 4) (k := 0) (by decide +kernel : decode (mB 5) 1 = .ok (.getfield 9, 3)) (by decide +kernel) rfl
theorem t5_4 : rn 5 4 ls r M = rn 5 6 ls (.int (-6) :: r) M := r_nx (by decide +kernel : decode (mB 5) 4 = .ok (.bipush (-6), 2)) rfl rfl
theorem t5_6 : rn 5 6 ls [.int x, .ref a] M = cbn (cl 6 [.ref a, .int x] M) 5 9 ls [] := r_callS (kd := 2) (by decide +kernel : decode (mB 5) 6 = .ok (.invokestatic 21, 3)) (by decide +kernel) (by decide +kernel) ((doS_n np_6).trans rfl)
theorem t5_9 : rn 5 9 (some (.ref a) :: l) r M = rn 5 10 (some (.ref a) :: l) (.ref a :: r) M := r_aload_n (by decide +kernel : decode (mB 5) 9 = .ok (.aload_n 0, 1)) rfl
theorem t5_10 : rn 5 10 ls (.ref a :: r) M = if mK M a = (14, 0) then rn 5 13 ls (va_rf (mP M a 1) :: r) M else none := r_getP (ci := 4) (k := 1) (by decide +kernel : decode (mB 5) 10 = .ok (.getfield 15, 3)) (by decide +kernel) rfl
theorem t5_13 : rn 5 13 ls r M = rn 5 15 ls (.int (-6) :: r) M := r_nx (by decide +kernel : decode (mB 5) 13 = .ok (.bipush (-6), 2)) rfl rfl
theorem t5_15 : rn 5 15 ls [.int x, .ref a] M = cbn (cl 6 [.ref a, .int x] M) 5 18 ls [] := r_callS (kd := 2) (by decide +kernel : decode (mB 5) 15 = .ok (.invokestatic 21, 3)) (by decide +kernel) (by decide +kernel) ((doS_n np_6).trans rfl)
theorem t5_18 : rn 5 18 (some (.ref a) :: l) r M = rn 5 19 (some (.ref a) :: l) (.ref a :: r) M := r_aload_n (by decide +kernel : decode (mB 5) 18 = .ok (.aload_n 0, 1)) rfl
theorem t5_19 : rn 5 19 ls (.ref a :: r) M = if mK M a = (14, 0) then rn 5 22 ls (va_rf (mP M a 1) :: r) M else none := r_getP (ci := 4) (k := 1) (by decide +kernel : decode (mB 5) 19 = .ok (.getfield 15, 3)) (by decide +kernel) rfl
theorem t5_22 : rn 5 22 ls r M = rn 5 23 ls (.int 0 :: r) M := r_nx (by decide +kernel : decode (mB 5) 22 = .ok (.iconst 0, 1)) rfl rfl
theorem t5_23 : rn 5 23 ls r M = rn 5 24 ls (.int 0 :: r) M := r_nx (by decide +kernel : decode (mB 5) 23 = .ok (.iconst 0, 1)) rfl rfl
theorem t5_24 : rn 5 24 ls (.int y :: .int x :: .ref a :: r) M = if (mK M a).1 = 1 ∧ inR x (mK M a).2 then rn 5 25 ls r (sI M a (va_up (mI M a) x.toNatClampNeg y)) else none := r_cnd (by decide +kernel : decode (mB 5) 24 = .ok (.iastore, 1)) rfl rfl
theorem t5_25 : rn 5 25 ls [] M = some (none, M) := r_vreturn (by decide +kernel : decode (mB 5) 25 = .ok (.return_, 1)) rfl
-- 7 Replay_clear()V
theorem t7_0 : rn 7 0 (some (.ref a) :: l) r M = rn 7 1 (some (.ref a) :: l) (.ref a :: r) M := r_aload_n (by decide +kernel : decode (mB 7) 0 = .ok (.aload_n 0, 1)) rfl
theorem t7_1 : rn 7 1 ls r M = rn 7 2 ls (.long 0 :: r) M := r_nx (by decide +kernel : decode (mB 7) 1 = .ok (.lconst 0, 1)) rfl rfl
theorem t7_2 : rn 7 2 ls (.long u :: .ref a :: r) M = if mK M a = (13, 0) then rn 7 5 ls r (sJ M a (va_up (mJ M a) 0 u)) else none := r_putJ (ci := 3) (k := 0) (by decide +kernel : decode (mB 7) 2 = .ok (.putfield 28, 3)) (by decide +kernel) rfl rfl
theorem t7_5 : rn 7 5 (some (.ref a) :: l) r M = rn 7 6 (some (.ref a) :: l) (.ref a :: r) M := r_aload_n (by decide +kernel : decode (mB 7) 5 = .ok (.aload_n 0, 1)) rfl
theorem t7_6 : rn 7 6 ls r M = rn 7 7 ls (.long 0 :: r) M := r_nx (by decide +kernel : decode (mB 7) 6 = .ok (.lconst 0, 1)) rfl rfl
theorem t7_7 : rn 7 7 ls (.long u :: .ref a :: r) M = if mK M a = (13, 0) then rn 7 10 ls r (sJ M a (va_up (mJ M a) 1 u)) else none := r_putJ (ci := 3) (k := 1) (by decide +kernel : decode (mB 7) 7 = .ok (.putfield 32, 3)) (by decide +kernel) rfl rfl
theorem t7_10 : rn 7 10 (some (.ref a) :: l) r M = rn 7 11 (some (.ref a) :: l) (.ref a :: r) M := r_aload_n (by decide +kernel : decode (mB 7) 10 = .ok (.aload_n 0, 1)) rfl
theorem t7_11 : rn 7 11 ls r M = rn 7 12 ls (.int 0 :: r) M := r_nx (by decide +kernel : decode (mB 7) 11 = .ok (.iconst 0, 1)) rfl rfl
theorem t7_12 : rn 7 12 ls (.int x :: .ref a :: r) M = if mK M a = (13, 0) then rn 7 15 ls r (sI M a (va_up (mI M a) 2 x)) else none := r_putI (ci := 3) (k := 2) (by decide +kernel : decode (mB 7) 12 = .ok (.putfield 35, 3)) (by decide +kernel) rfl rfl
theorem t7_15 : rn 7 15 (some (.ref a) :: l) r M = rn 7 16 (some (.ref a) :: l) (.ref a :: r) M := r_aload_n (by decide +kernel : decode (mB 7) 15 = .ok (.aload_n 0, 1)) rfl
theorem t7_16 : rn 7 16 ls r M = rn 7 17 ls (.int 0 :: r) M := r_nx (by decide +kernel : decode (mB 7) 16 = .ok (.iconst 0, 1)) rfl rfl
theorem t7_17 : rn 7 17 ls (.int x :: .ref a :: r) M = if mK M a = (13, 0) then rn 7 20 ls r (sI M a (va_up (mI M a) 3 x)) else none := r_putI (ci := 3) (k := 3) (by decide +kernel : decode (mB 7) 17 = .ok (.putfield 39, 3)) (by decide +kernel) rfl rfl
theorem t7_20 : rn 7 20 (some (.ref a) :: l) r M = rn 7 21 (some (.ref a) :: l) (.ref a :: r) M := r_aload_n (by decide +kernel : decode (mB 7) 20 = .ok (.aload_n 0, 1)) rfl
theorem t7_21 : rn 7 21 ls (.ref a :: r) M = if mK M a = (13, 0) then rn 7 24 ls (va_rf (mP M a 4) :: r) M else none := r_getP (ci := 3) (k := 4) (by decide +kernel : decode (mB 7) 21 = .ok (.getfield 9, 3)) (by decide +kernel) rfl
theorem t7_24 : rn 7 24 ls r M = rn 7 26 ls (.int (-6) :: r) M := r_nx (by decide +kernel : decode (mB 7) 24 = .ok (.bipush (-6), 2)) rfl rfl
theorem t7_26 : rn 7 26 ls [.int x, .ref a] M = cbn (cl 6 [.ref a, .int x] M) 7 29 ls [] := r_callS (kd := 2) (by decide +kernel : decode (mB 7) 26 = .ok (.invokestatic 42, 3)) (by decide +kernel) (by decide +kernel) ((doS_n np_6).trans rfl)
theorem t7_29 : rn 7 29 (some (.ref a) :: l) r M = rn 7 30 (some (.ref a) :: l) (.ref a :: r) M := r_aload_n (by decide +kernel : decode (mB 7) 29 = .ok (.aload_n 0, 1)) rfl
theorem t7_30 : rn 7 30 ls (.ref a :: r) M = if mK M a = (13, 0) then rn 7 33 ls (va_rf (mP M a 5) :: r) M else none := r_getP (ci := 3) (k := 5) (by decide +kernel : decode (mB 7) 30 = .ok (.getfield 15, 3)) (by decide +kernel) rfl
theorem t7_33 : rn 7 33 ls r M = rn 7 35 ls (.int (-6) :: r) M := r_nx (by decide +kernel : decode (mB 7) 33 = .ok (.bipush (-6), 2)) rfl rfl
theorem t7_35 : rn 7 35 ls [.int x, .ref a] M = cbn (cl 6 [.ref a, .int x] M) 7 38 ls [] := r_callS (kd := 2) (by decide +kernel : decode (mB 7) 35 = .ok (.invokestatic 42, 3)) (by decide +kernel) (by decide +kernel) ((doS_n np_6).trans rfl)
theorem t7_38 : rn 7 38 (some (.ref a) :: l) r M = rn 7 39 (some (.ref a) :: l) (.ref a :: r) M := r_aload_n (by decide +kernel : decode (mB 7) 38 = .ok (.aload_n 0, 1)) rfl
theorem t7_39 : rn 7 39 ls (.ref a :: r) M = if mK M a = (13, 0) then rn 7 42 ls (va_rf (mP M a 6) :: r) M else none := r_getP (ci := 3) (k := 6) (by decide +kernel : decode (mB 7) 39 = .ok (.getfield 21, 3)) (by decide +kernel) rfl
theorem t7_42 : rn 7 42 ls [.ref a] M = if mK M a = (14, 0) then cbn (cl 5 [.ref a] M) 7 45 ls [] else none := r_callV (kd := 0) (by decide +kernel : decode (mB 7) 42 = .ok (.invokevirtual 48, 3)) (by decide +kernel) ((doV_n np_5).trans rfl)
theorem t7_45 : rn 7 45 ls [] M = some (none, M) := r_vreturn (by decide +kernel : decode (mB 7) 45 = .ok (.return_, 1)) rfl
-- 13 History_prepare(LDependentReplay$State;)V
theorem t13_0 : rn 13 0 (some (.ref a) :: l) r M = rn 13 1 (some (.ref a) :: l) (.ref a :: r) M := r_aload_n (by decide +kernel : decode (mB 13) 0 = .ok (.aload_n 0, 1)) rfl
theorem t13_1 : rn 13 1 ls (.ref a :: r) M = if mK M a = (15, 0) then rn 13 4 ls (va_rf (mP M a 0) :: r) M else none := r_getP (ci := 5) (k := 0) (by decide +kernel : decode (mB 13) 1 = .ok (.getfield 13, 3)) (by decide +kernel) rfl
theorem t13_4 : rn 13 4 (some (.ref a) :: l) r M = rn 13 5 (some (.ref a) :: l) (.ref a :: r) M := r_aload_n (by decide +kernel : decode (mB 13) 4 = .ok (.aload_n 0, 1)) rfl
theorem t13_5 : rn 13 5 ls (.ref a :: r) M = if mK M a = (15, 0) then rn 13 8 ls (.int (mI M a 1) :: r) M else none := r_getI (ci := 5) (k := 1) (by decide +kernel : decode (mB 13) 5 = .ok (.getfield 18, 3)) (by decide +kernel) (Or.inl rfl)
theorem t13_8 : rn 13 8 ls (.int x :: .ref a :: r) M = if ((mK M a).1 = 3 ∨ (mK M a).1 = 4) ∧ inR x (mK M a).2 then rn 13 9 ls (va_rf (mP M a x.toNatClampNeg) :: r) M else none := r_cnd (by decide +kernel : decode (mB 13) 8 = .ok (.aaload, 1)) rfl rfl
theorem t13_9 : rn 13 9 (a0 :: some (.ref a) :: l) r M = rn 13 10 (a0 :: some (.ref a) :: l) (.ref a :: r) M := r_aload_n (by decide +kernel : decode (mB 13) 9 = .ok (.aload_n 1, 1)) rfl
theorem t13_10 : rn 13 10 ls [.ref a, .ref b] M = if mK M b = (11, 0) then cbn (cl 14 [.ref b, .ref a] M) 13 13 ls [] else none := r_callV (kd := 0) (by decide +kernel : decode (mB 13) 10 = .ok (.invokevirtual 22, 3)) (by decide +kernel) ((doV_n np_14).trans rfl)
theorem t13_13 : rn 13 13 ls [] M = some (none, M) := r_vreturn (by decide +kernel : decode (mB 13) 13 = .ok (.return_, 1)) rfl
-- 14 State_copyFrom(LDependentReplay$State;)V
theorem t14_0 : rn 14 0 (some (.ref a) :: l) r M = rn 14 1 (some (.ref a) :: l) (.ref a :: r) M := r_aload_n (by decide +kernel : decode (mB 14) 0 = .ok (.aload_n 0, 1)) rfl
theorem t14_1 : rn 14 1 ls (.ref a :: r) M = if mK M a = (11, 0) then rn 14 4 ls (va_rf (mP M a 0) :: r) M else none := r_getP (ci := 1) (k := 0) (by decide +kernel : decode (mB 14) 1 = .ok (.getfield 12, 3)) (by decide +kernel) rfl
theorem t14_4 : rn 14 4 (a0 :: some (.ref a) :: l) r M = rn 14 5 (a0 :: some (.ref a) :: l) (.ref a :: r) M := r_aload_n (by decide +kernel : decode (mB 14) 4 = .ok (.aload_n 1, 1)) rfl
theorem t14_5 : rn 14 5 ls (.ref a :: r) M = if mK M a = (11, 0) then rn 14 8 ls (va_rf (mP M a 0) :: r) M else none := r_getP (ci := 1) (k := 0) (by decide +kernel : decode (mB 14) 5 = .ok (.getfield 12, 3)) (by decide +kernel) rfl
theorem t14_8 : rn 14 8 ls [.ref a, .ref b] M = if mK M b = (12, 0) then cbn (cl 15 [.ref b, .ref a] M) 14 11 ls [] else none := r_callV (kd := 0) (by decide +kernel : decode (mB 14) 8 = .ok (.invokevirtual 25, 3)) (by decide +kernel) ((doV_n np_15).trans rfl)
theorem t14_11 : rn 14 11 (some (.ref a) :: l) r M = rn 14 12 (some (.ref a) :: l) (.ref a :: r) M := r_aload_n (by decide +kernel : decode (mB 14) 11 = .ok (.aload_n 0, 1)) rfl
theorem t14_12 : rn 14 12 ls (.ref a :: r) M = if mK M a = (11, 0) then rn 14 15 ls (va_rf (mP M a 1) :: r) M else none := r_getP (ci := 1) (k := 1) (by decide +kernel : decode (mB 14) 12 = .ok (.getfield 21, 3)) (by decide +kernel) rfl
theorem t14_15 : rn 14 15 (a0 :: some (.ref a) :: l) r M = rn 14 16 (a0 :: some (.ref a) :: l) (.ref a :: r) M := r_aload_n (by decide +kernel : decode (mB 14) 15 = .ok (.aload_n 1, 1)) rfl
theorem t14_16 : rn 14 16 ls (.ref a :: r) M = if mK M a = (11, 0) then rn 14 19 ls (va_rf (mP M a 1) :: r) M else none := r_getP (ci := 1) (k := 1) (by decide +kernel : decode (mB 14) 16 = .ok (.getfield 21, 3)) (by decide +kernel) rfl
theorem t14_19 : rn 14 19 ls [.ref a, .ref b] M = if mK M b = (13, 0) then cbn (cl 16 [.ref b, .ref a] M) 14 22 ls [] else none := r_callV (kd := 0) (by decide +kernel : decode (mB 14) 19 = .ok (.invokevirtual 29, 3)) (by decide +kernel) ((doV_n np_16).trans rfl)
theorem t14_22 : rn 14 22 ls [] M = some (none, M) := r_vreturn (by decide +kernel : decode (mB 14) 22 = .ok (.return_, 1)) rfl
-- 15 Log_copyFrom(LDependentReplay$Log;)V
theorem t15_0 : rn 15 0 (some (.ref a) :: l) r M = rn 15 1 (some (.ref a) :: l) (.ref a :: r) M := r_aload_n (by decide +kernel : decode (mB 15) 0 = .ok (.aload_n 0, 1)) rfl
theorem t15_1 : rn 15 1 (a0 :: some (.ref a) :: l) r M = rn 15 2 (a0 :: some (.ref a) :: l) (.ref a :: r) M := r_aload_n (by decide +kernel : decode (mB 15) 1 = .ok (.aload_n 1, 1)) rfl
theorem t15_2 : rn 15 2 ls (.ref a :: r) M = if mK M a = (12, 0) then rn 15 5 ls (.int (mI M a 0) :: r) M else none := r_getI (ci := 2) (k := 0) (by decide +kernel : decode (mB 15) 2 = .ok (.getfield 28, 3)) (by decide +kernel) (Or.inl rfl)
theorem t15_5 : rn 15 5 ls (.int x :: .ref a :: r) M = if mK M a = (12, 0) then rn 15 8 ls r (sI M a (va_up (mI M a) 0 x)) else none := r_putI (ci := 2) (k := 0) (by decide +kernel : decode (mB 15) 5 = .ok (.putfield 28, 3)) (by decide +kernel) rfl rfl
theorem t15_8 : rn 15 8 (some (.ref a) :: l) r M = rn 15 9 (some (.ref a) :: l) (.ref a :: r) M := r_aload_n (by decide +kernel : decode (mB 15) 8 = .ok (.aload_n 0, 1)) rfl
theorem t15_9 : rn 15 9 (a0 :: some (.ref a) :: l) r M = rn 15 10 (a0 :: some (.ref a) :: l) (.ref a :: r) M := r_aload_n (by decide +kernel : decode (mB 15) 9 = .ok (.aload_n 1, 1)) rfl
theorem t15_10 : rn 15 10 ls (.ref a :: r) M = if mK M a = (12, 0) then rn 15 13 ls (.long (mJ M a 1) :: r) M else none := r_getJ (ci := 2) (k := 1) (by decide +kernel : decode (mB 15) 10 = .ok (.getfield 32, 3)) (by decide +kernel) rfl
theorem t15_13 : rn 15 13 ls (.long u :: .ref a :: r) M = if mK M a = (12, 0) then rn 15 16 ls r (sJ M a (va_up (mJ M a) 1 u)) else none := r_putJ (ci := 2) (k := 1) (by decide +kernel : decode (mB 15) 13 = .ok (.putfield 32, 3)) (by decide +kernel) rfl rfl
theorem t15_16 : rn 15 16 (a0 :: some (.ref a) :: l) r M = rn 15 17 (a0 :: some (.ref a) :: l) (.ref a :: r) M := r_aload_n (by decide +kernel : decode (mB 15) 16 = .ok (.aload_n 1, 1)) rfl
theorem t15_17 : rn 15 17 ls (.ref a :: r) M = if mK M a = (12, 0) then rn 15 20 ls (va_rf (mP M a 2) :: r) M else none := r_getP (ci := 2) (k := 2) (by decide +kernel : decode (mB 15) 17 = .ok (.getfield 9, 3)) (by decide +kernel) rfl
theorem t15_20 : rn 15 20 ls r M = rn 15 21 ls (.int 0 :: r) M := r_nx (by decide +kernel : decode (mB 15) 20 = .ok (.iconst 0, 1)) rfl rfl
theorem t15_21 : rn 15 21 (some (.ref a) :: l) r M = rn 15 22 (some (.ref a) :: l) (.ref a :: r) M := r_aload_n (by decide +kernel : decode (mB 15) 21 = .ok (.aload_n 0, 1)) rfl
theorem t15_22 : rn 15 22 ls (.ref a :: r) M = if mK M a = (12, 0) then rn 15 25 ls (va_rf (mP M a 2) :: r) M else none := r_getP (ci := 2) (k := 2) (by decide +kernel : decode (mB 15) 22 = .ok (.getfield 9, 3)) (by decide +kernel) rfl
theorem t15_25 : rn 15 25 ls r M = rn 15 26 ls (.int 0 :: r) M := r_nx (by decide +kernel : decode (mB 15) 25 = .ok (.iconst 0, 1)) rfl rfl
theorem t15_26 : rn 15 26 ls r M = rn 15 28 ls (.int 40 :: r) M := r_nx (by decide +kernel : decode (mB 15) 26 = .ok (.bipush 40, 2)) rfl rfl
theorem t15_28 : rn 15 28 ls [.int z, .int y, .ref a, .int x, .ref b] M = if (¬ x < 0 ∧ ¬ y < 0 ∧ ¬ z < 0) ∧ x.toNatClampNeg + z.toNatClampNeg ≤ (mK M b).2 ∧ y.toNatClampNeg + z.toNatClampNeg ≤ (mK M a).2 then (if (mK M a).1 = 1 ∧ (mK M b).1 = 1 then rn 15 31 ls [] (sI M a (va_cpy (mI M b) (mI M a) x.toNatClampNeg y.toNatClampNeg z.toNatClampNeg)) else if (mK M a).1 = 2 ∧ (mK M b).1 = 2 then rn 15 31 ls [] (sJ M a (va_cpy (mJ M b) (mJ M a) x.toNatClampNeg y.toNatClampNeg z.toNatClampNeg)) else none) else none := r_cpy (by decide +kernel : decode (mB 15) 28 = .ok (.invokestatic 36, 3)) (by decide +kernel) rfl
theorem t15_31 : rn 15 31 (a0 :: some (.ref a) :: l) r M = rn 15 32 (a0 :: some (.ref a) :: l) (.ref a :: r) M := r_aload_n (by decide +kernel : decode (mB 15) 31 = .ok (.aload_n 1, 1)) rfl
theorem t15_32 : rn 15 32 ls (.ref a :: r) M = if mK M a = (12, 0) then rn 15 35 ls (va_rf (mP M a 3) :: r) M else none := r_getP (ci := 2) (k := 3) (by decide +kernel : decode (mB 15) 32 = .ok (.getfield 15, 3)) (by decide +kernel) rfl
theorem t15_35 : rn 15 35 ls r M = rn 15 36 ls (.int 0 :: r) M := r_nx (by decide +kernel : decode (mB 15) 35 = .ok (.iconst 0, 1)) rfl rfl
theorem t15_36 : rn 15 36 (some (.ref a) :: l) r M = rn 15 37 (some (.ref a) :: l) (.ref a :: r) M := r_aload_n (by decide +kernel : decode (mB 15) 36 = .ok (.aload_n 0, 1)) rfl
theorem t15_37 : rn 15 37 ls (.ref a :: r) M = if mK M a = (12, 0) then rn 15 40 ls (va_rf (mP M a 3) :: r) M else none := r_getP (ci := 2) (k := 3) (by decide +kernel : decode (mB 15) 37 = .ok (.getfield 15, 3)) (by decide +kernel) rfl
theorem t15_40 : rn 15 40 ls r M = rn 15 41 ls (.int 0 :: r) M := r_nx (by decide +kernel : decode (mB 15) 40 = .ok (.iconst 0, 1)) rfl rfl
theorem t15_41 : rn 15 41 ls r M = rn 15 43 ls (.int 40 :: r) M := r_nx (by decide +kernel : decode (mB 15) 41 = .ok (.bipush 40, 2)) rfl rfl
theorem t15_43 : rn 15 43 ls [.int z, .int y, .ref a, .int x, .ref b] M = if (¬ x < 0 ∧ ¬ y < 0 ∧ ¬ z < 0) ∧ x.toNatClampNeg + z.toNatClampNeg ≤ (mK M b).2 ∧ y.toNatClampNeg + z.toNatClampNeg ≤ (mK M a).2 then (if (mK M a).1 = 1 ∧ (mK M b).1 = 1 then rn 15 46 ls [] (sI M a (va_cpy (mI M b) (mI M a) x.toNatClampNeg y.toNatClampNeg z.toNatClampNeg)) else if (mK M a).1 = 2 ∧ (mK M b).1 = 2 then rn 15 46 ls [] (sJ M a (va_cpy (mJ M b) (mJ M a) x.toNatClampNeg y.toNatClampNeg z.toNatClampNeg)) else none) else none := r_cpy (by decide +kernel : decode (mB 15) 43 = .ok (.invokestatic 36, 3)) (by decide +kernel) rfl
theorem t15_46 : rn 15 46 (a0 :: some (.ref a) :: l) r M = rn 15 47 (a0 :: some (.ref a) :: l) (.ref a :: r) M := r_aload_n (by decide +kernel : decode (mB 15) 46 = .ok (.aload_n 1, 1)) rfl
theorem t15_47 : rn 15 47 ls (.ref a :: r) M = if mK M a = (12, 0) then rn 15 50 ls (va_rf (mP M a 4) :: r) M else none := r_getP (ci := 2) (k := 4) (by decide +kernel : decode (mB 15) 47 = .ok (.getfield 18, 3)) (by decide +kernel) rfl
theorem t15_50 : rn 15 50 ls r M = rn 15 51 ls (.int 0 :: r) M := r_nx (by decide +kernel : decode (mB 15) 50 = .ok (.iconst 0, 1)) rfl rfl
theorem t15_51 : rn 15 51 (some (.ref a) :: l) r M = rn 15 52 (some (.ref a) :: l) (.ref a :: r) M := r_aload_n (by decide +kernel : decode (mB 15) 51 = .ok (.aload_n 0, 1)) rfl
theorem t15_52 : rn 15 52 ls (.ref a :: r) M = if mK M a = (12, 0) then rn 15 55 ls (va_rf (mP M a 4) :: r) M else none := r_getP (ci := 2) (k := 4) (by decide +kernel : decode (mB 15) 52 = .ok (.getfield 18, 3)) (by decide +kernel) rfl
theorem t15_55 : rn 15 55 ls r M = rn 15 56 ls (.int 0 :: r) M := r_nx (by decide +kernel : decode (mB 15) 55 = .ok (.iconst 0, 1)) rfl rfl
theorem t15_56 : rn 15 56 ls r M = rn 15 58 ls (.int 40 :: r) M := r_nx (by decide +kernel : decode (mB 15) 56 = .ok (.bipush 40, 2)) rfl rfl
theorem t15_58 : rn 15 58 ls [.int z, .int y, .ref a, .int x, .ref b] M = if (¬ x < 0 ∧ ¬ y < 0 ∧ ¬ z < 0) ∧ x.toNatClampNeg + z.toNatClampNeg ≤ (mK M b).2 ∧ y.toNatClampNeg + z.toNatClampNeg ≤ (mK M a).2 then (if (mK M a).1 = 1 ∧ (mK M b).1 = 1 then rn 15 61 ls [] (sI M a (va_cpy (mI M b) (mI M a) x.toNatClampNeg y.toNatClampNeg z.toNatClampNeg)) else if (mK M a).1 = 2 ∧ (mK M b).1 = 2 then rn 15 61 ls [] (sJ M a (va_cpy (mJ M b) (mJ M a) x.toNatClampNeg y.toNatClampNeg z.toNatClampNeg)) else none) else none := r_cpy (by decide +kernel : decode (mB 15) 58 = .ok (.invokestatic 36, 3)) (by decide +kernel) rfl
theorem t15_61 : rn 15 61 (a0 :: some (.ref a) :: l) r M = rn 15 62 (a0 :: some (.ref a) :: l) (.ref a :: r) M := r_aload_n (by decide +kernel : decode (mB 15) 61 = .ok (.aload_n 1, 1)) rfl
theorem t15_62 : rn 15 62 ls (.ref a :: r) M = if mK M a = (12, 0) then rn 15 65 ls (va_rf (mP M a 5) :: r) M else none := r_getP (ci := 2) (k := 5) (by decide +kernel : decode (mB 15) 62 = .ok (.getfield 21, 3)) (by decide +kernel) rfl
theorem t15_65 : rn 15 65 ls r M = rn 15 66 ls (.int 0 :: r) M := r_nx (by decide +kernel : decode (mB 15) 65 = .ok (.iconst 0, 1)) rfl rfl
theorem t15_66 : rn 15 66 (some (.ref a) :: l) r M = rn 15 67 (some (.ref a) :: l) (.ref a :: r) M := r_aload_n (by decide +kernel : decode (mB 15) 66 = .ok (.aload_n 0, 1)) rfl
theorem t15_67 : rn 15 67 ls (.ref a :: r) M = if mK M a = (12, 0) then rn 15 70 ls (va_rf (mP M a 5) :: r) M else none := r_getP (ci := 2) (k := 5) (by decide +kernel : decode (mB 15) 67 = .ok (.getfield 21, 3)) (by decide +kernel) rfl
theorem t15_70 : rn 15 70 ls r M = rn 15 71 ls (.int 0 :: r) M := r_nx (by decide +kernel : decode (mB 15) 70 = .ok (.iconst 0, 1)) rfl rfl
theorem t15_71 : rn 15 71 ls r M = rn 15 73 ls (.int 40 :: r) M := r_nx (by decide +kernel : decode (mB 15) 71 = .ok (.bipush 40, 2)) rfl rfl
theorem t15_73 : rn 15 73 ls [.int z, .int y, .ref a, .int x, .ref b] M = if (¬ x < 0 ∧ ¬ y < 0 ∧ ¬ z < 0) ∧ x.toNatClampNeg + z.toNatClampNeg ≤ (mK M b).2 ∧ y.toNatClampNeg + z.toNatClampNeg ≤ (mK M a).2 then (if (mK M a).1 = 1 ∧ (mK M b).1 = 1 then rn 15 76 ls [] (sI M a (va_cpy (mI M b) (mI M a) x.toNatClampNeg y.toNatClampNeg z.toNatClampNeg)) else if (mK M a).1 = 2 ∧ (mK M b).1 = 2 then rn 15 76 ls [] (sJ M a (va_cpy (mJ M b) (mJ M a) x.toNatClampNeg y.toNatClampNeg z.toNatClampNeg)) else none) else none := r_cpy (by decide +kernel : decode (mB 15) 73 = .ok (.invokestatic 36, 3)) (by decide +kernel) rfl
theorem t15_76 : rn 15 76 (a0 :: some (.ref a) :: l) r M = rn 15 77 (a0 :: some (.ref a) :: l) (.ref a :: r) M := r_aload_n (by decide +kernel : decode (mB 15) 76 = .ok (.aload_n 1, 1)) rfl
theorem t15_77 : rn 15 77 ls (.ref a :: r) M = if mK M a = (12, 0) then rn 15 80 ls (va_rf (mP M a 6) :: r) M else none := r_getP (ci := 2) (k := 6) (by decide +kernel : decode (mB 15) 77 = .ok (.getfield 25, 3)) (by decide +kernel) rfl
theorem t15_80 : rn 15 80 ls r M = rn 15 81 ls (.int 0 :: r) M := r_nx (by decide +kernel : decode (mB 15) 80 = .ok (.iconst 0, 1)) rfl rfl
theorem t15_81 : rn 15 81 (some (.ref a) :: l) r M = rn 15 82 (some (.ref a) :: l) (.ref a :: r) M := r_aload_n (by decide +kernel : decode (mB 15) 81 = .ok (.aload_n 0, 1)) rfl
theorem t15_82 : rn 15 82 ls (.ref a :: r) M = if mK M a = (12, 0) then rn 15 85 ls (va_rf (mP M a 6) :: r) M else none := r_getP (ci := 2) (k := 6) (by decide +kernel : decode (mB 15) 82 = .ok (.getfield 25, 3)) (by decide +kernel) rfl
theorem t15_85 : rn 15 85 ls r M = rn 15 86 ls (.int 0 :: r) M := r_nx (by decide +kernel : decode (mB 15) 85 = .ok (.iconst 0, 1)) rfl rfl
theorem t15_86 : rn 15 86 ls r M = rn 15 88 ls (.int 40 :: r) M := r_nx (by decide +kernel : decode (mB 15) 86 = .ok (.bipush 40, 2)) rfl rfl
theorem t15_88 : rn 15 88 ls [.int z, .int y, .ref a, .int x, .ref b] M = if (¬ x < 0 ∧ ¬ y < 0 ∧ ¬ z < 0) ∧ x.toNatClampNeg + z.toNatClampNeg ≤ (mK M b).2 ∧ y.toNatClampNeg + z.toNatClampNeg ≤ (mK M a).2 then (if (mK M a).1 = 1 ∧ (mK M b).1 = 1 then rn 15 91 ls [] (sI M a (va_cpy (mI M b) (mI M a) x.toNatClampNeg y.toNatClampNeg z.toNatClampNeg)) else if (mK M a).1 = 2 ∧ (mK M b).1 = 2 then rn 15 91 ls [] (sJ M a (va_cpy (mJ M b) (mJ M a) x.toNatClampNeg y.toNatClampNeg z.toNatClampNeg)) else none) else none := r_cpy (by decide +kernel : decode (mB 15) 88 = .ok (.invokestatic 36, 3)) (by decide +kernel) rfl
theorem t15_91 : rn 15 91 ls [] M = some (none, M) := r_vreturn (by decide +kernel : decode (mB 15) 91 = .ok (.return_, 1)) rfl
-- 16 Replay_copyFrom(LDependentReplay$Replay;)V
theorem t16_0 : rn 16 0 (some (.ref a) :: l) r M = rn 16 1 (some (.ref a) :: l) (.ref a :: r) M := r_aload_n (by decide +kernel : decode (mB 16) 0 = .ok (.aload_n 0, 1)) rfl
theorem t16_1 : rn 16 1 (a0 :: some (.ref a) :: l) r M = rn 16 2 (a0 :: some (.ref a) :: l) (.ref a :: r) M := r_aload_n (by decide +kernel : decode (mB 16) 1 = .ok (.aload_n 1, 1)) rfl
theorem t16_2 : rn 16 2 ls (.ref a :: r) M = if mK M a = (13, 0) then rn 16 5 ls (.long (mJ M a 0) :: r) M else none := r_getJ (ci := 3) (k := 0) (by decide +kernel : decode (mB 16) 2 = .ok (.getfield 28, 3)) (by decide +kernel) rfl
theorem t16_5 : rn 16 5 ls (.long u :: .ref a :: r) M = if mK M a = (13, 0) then rn 16 8 ls r (sJ M a (va_up (mJ M a) 0 u)) else none := r_putJ (ci := 3) (k := 0) (by decide +kernel : decode (mB 16) 5 = .ok (.putfield 28, 3)) (by decide +kernel) rfl rfl
theorem t16_8 : rn 16 8 (some (.ref a) :: l) r M = rn 16 9 (some (.ref a) :: l) (.ref a :: r) M := r_aload_n (by decide +kernel : decode (mB 16) 8 = .ok (.aload_n 0, 1)) rfl
theorem t16_9 : rn 16 9 (a0 :: some (.ref a) :: l) r M = rn 16 10 (a0 :: some (.ref a) :: l) (.ref a :: r) M := r_aload_n (by decide +kernel : decode (mB 16) 9 = .ok (.aload_n 1, 1)) rfl
theorem t16_10 : rn 16 10 ls (.ref a :: r) M = if mK M a = (13, 0) then rn 16 13 ls (.long (mJ M a 1) :: r) M else none := r_getJ (ci := 3) (k := 1) (by decide +kernel : decode (mB 16) 10 = .ok (.getfield 32, 3)) (by decide +kernel) rfl
theorem t16_13 : rn 16 13 ls (.long u :: .ref a :: r) M = if mK M a = (13, 0) then rn 16 16 ls r (sJ M a (va_up (mJ M a) 1 u)) else none := r_putJ (ci := 3) (k := 1) (by decide +kernel : decode (mB 16) 13 = .ok (.putfield 32, 3)) (by decide +kernel) rfl rfl
theorem t16_16 : rn 16 16 (some (.ref a) :: l) r M = rn 16 17 (some (.ref a) :: l) (.ref a :: r) M := r_aload_n (by decide +kernel : decode (mB 16) 16 = .ok (.aload_n 0, 1)) rfl
theorem t16_17 : rn 16 17 (a0 :: some (.ref a) :: l) r M = rn 16 18 (a0 :: some (.ref a) :: l) (.ref a :: r) M := r_aload_n (by decide +kernel : decode (mB 16) 17 = .ok (.aload_n 1, 1)) rfl
theorem t16_18 : rn 16 18 ls (.ref a :: r) M = if mK M a = (13, 0) then rn 16 21 ls (.int (mI M a 2) :: r) M else none := r_getI (ci := 3) (k := 2) (by decide +kernel : decode (mB 16) 18 = .ok (.getfield 35, 3)) (by decide +kernel) (Or.inl rfl)
theorem t16_21 : rn 16 21 ls (.int x :: .ref a :: r) M = if mK M a = (13, 0) then rn 16 24 ls r (sI M a (va_up (mI M a) 2 x)) else none := r_putI (ci := 3) (k := 2) (by decide +kernel : decode (mB 16) 21 = .ok (.putfield 35, 3)) (by decide +kernel) rfl rfl
theorem t16_24 : rn 16 24 (some (.ref a) :: l) r M = rn 16 25 (some (.ref a) :: l) (.ref a :: r) M := r_aload_n (by decide +kernel : decode (mB 16) 24 = .ok (.aload_n 0, 1)) rfl
theorem t16_25 : rn 16 25 (a0 :: some (.ref a) :: l) r M = rn 16 26 (a0 :: some (.ref a) :: l) (.ref a :: r) M := r_aload_n (by decide +kernel : decode (mB 16) 25 = .ok (.aload_n 1, 1)) rfl
theorem t16_26 : rn 16 26 ls (.ref a :: r) M = if mK M a = (13, 0) then rn 16 29 ls (.int (mI M a 3) :: r) M else none := r_getI (ci := 3) (k := 3) (by decide +kernel : decode (mB 16) 26 = .ok (.getfield 39, 3)) (by decide +kernel) (Or.inl rfl)
theorem t16_29 : rn 16 29 ls (.int x :: .ref a :: r) M = if mK M a = (13, 0) then rn 16 32 ls r (sI M a (va_up (mI M a) 3 x)) else none := r_putI (ci := 3) (k := 3) (by decide +kernel : decode (mB 16) 29 = .ok (.putfield 39, 3)) (by decide +kernel) rfl rfl
theorem t16_32 : rn 16 32 (a0 :: some (.ref a) :: l) r M = rn 16 33 (a0 :: some (.ref a) :: l) (.ref a :: r) M := r_aload_n (by decide +kernel : decode (mB 16) 32 = .ok (.aload_n 1, 1)) rfl
theorem t16_33 : rn 16 33 ls (.ref a :: r) M = if mK M a = (13, 0) then rn 16 36 ls (va_rf (mP M a 4) :: r) M else none := r_getP (ci := 3) (k := 4) (by decide +kernel : decode (mB 16) 33 = .ok (.getfield 9, 3)) (by decide +kernel) rfl
theorem t16_36 : rn 16 36 ls r M = rn 16 37 ls (.int 0 :: r) M := r_nx (by decide +kernel : decode (mB 16) 36 = .ok (.iconst 0, 1)) rfl rfl
theorem t16_37 : rn 16 37 (some (.ref a) :: l) r M = rn 16 38 (some (.ref a) :: l) (.ref a :: r) M := r_aload_n (by decide +kernel : decode (mB 16) 37 = .ok (.aload_n 0, 1)) rfl
theorem t16_38 : rn 16 38 ls (.ref a :: r) M = if mK M a = (13, 0) then rn 16 41 ls (va_rf (mP M a 4) :: r) M else none := r_getP (ci := 3) (k := 4) (by decide +kernel : decode (mB 16) 38 = .ok (.getfield 9, 3)) (by decide +kernel) rfl
theorem t16_41 : rn 16 41 ls r M = rn 16 42 ls (.int 0 :: r) M := r_nx (by decide +kernel : decode (mB 16) 41 = .ok (.iconst 0, 1)) rfl rfl
theorem t16_42 : rn 16 42 ls r M = rn 16 44 ls (.int 40 :: r) M := r_nx (by decide +kernel : decode (mB 16) 42 = .ok (.bipush 40, 2)) rfl rfl
theorem t16_44 : rn 16 44 ls [.int z, .int y, .ref a, .int x, .ref b] M = if (¬ x < 0 ∧ ¬ y < 0 ∧ ¬ z < 0) ∧ x.toNatClampNeg + z.toNatClampNeg ≤ (mK M b).2 ∧ y.toNatClampNeg + z.toNatClampNeg ≤ (mK M a).2 then (if (mK M a).1 = 1 ∧ (mK M b).1 = 1 then rn 16 47 ls [] (sI M a (va_cpy (mI M b) (mI M a) x.toNatClampNeg y.toNatClampNeg z.toNatClampNeg)) else if (mK M a).1 = 2 ∧ (mK M b).1 = 2 then rn 16 47 ls [] (sJ M a (va_cpy (mJ M b) (mJ M a) x.toNatClampNeg y.toNatClampNeg z.toNatClampNeg)) else none) else none := r_cpy (by decide +kernel : decode (mB 16) 44 = .ok (.invokestatic 49, 3)) (by decide +kernel) rfl
theorem t16_47 : rn 16 47 (a0 :: some (.ref a) :: l) r M = rn 16 48 (a0 :: some (.ref a) :: l) (.ref a :: r) M := r_aload_n (by decide +kernel : decode (mB 16) 47 = .ok (.aload_n 1, 1)) rfl
theorem t16_48 : rn 16 48 ls (.ref a :: r) M = if mK M a = (13, 0) then rn 16 51 ls (va_rf (mP M a 5) :: r) M else none := r_getP (ci := 3) (k := 5) (by decide +kernel : decode (mB 16) 48 = .ok (.getfield 15, 3)) (by decide +kernel) rfl
theorem t16_51 : rn 16 51 ls r M = rn 16 52 ls (.int 0 :: r) M := r_nx (by decide +kernel : decode (mB 16) 51 = .ok (.iconst 0, 1)) rfl rfl
theorem t16_52 : rn 16 52 (some (.ref a) :: l) r M = rn 16 53 (some (.ref a) :: l) (.ref a :: r) M := r_aload_n (by decide +kernel : decode (mB 16) 52 = .ok (.aload_n 0, 1)) rfl
theorem t16_53 : rn 16 53 ls (.ref a :: r) M = if mK M a = (13, 0) then rn 16 56 ls (va_rf (mP M a 5) :: r) M else none := r_getP (ci := 3) (k := 5) (by decide +kernel : decode (mB 16) 53 = .ok (.getfield 15, 3)) (by decide +kernel) rfl
theorem t16_56 : rn 16 56 ls r M = rn 16 57 ls (.int 0 :: r) M := r_nx (by decide +kernel : decode (mB 16) 56 = .ok (.iconst 0, 1)) rfl rfl
theorem t16_57 : rn 16 57 ls r M = rn 16 59 ls (.int 40 :: r) M := r_nx (by decide +kernel : decode (mB 16) 57 = .ok (.bipush 40, 2)) rfl rfl
theorem t16_59 : rn 16 59 ls [.int z, .int y, .ref a, .int x, .ref b] M = if (¬ x < 0 ∧ ¬ y < 0 ∧ ¬ z < 0) ∧ x.toNatClampNeg + z.toNatClampNeg ≤ (mK M b).2 ∧ y.toNatClampNeg + z.toNatClampNeg ≤ (mK M a).2 then (if (mK M a).1 = 1 ∧ (mK M b).1 = 1 then rn 16 62 ls [] (sI M a (va_cpy (mI M b) (mI M a) x.toNatClampNeg y.toNatClampNeg z.toNatClampNeg)) else if (mK M a).1 = 2 ∧ (mK M b).1 = 2 then rn 16 62 ls [] (sJ M a (va_cpy (mJ M b) (mJ M a) x.toNatClampNeg y.toNatClampNeg z.toNatClampNeg)) else none) else none := r_cpy (by decide +kernel : decode (mB 16) 59 = .ok (.invokestatic 49, 3)) (by decide +kernel) rfl
theorem t16_62 : rn 16 62 (some (.ref a) :: l) r M = rn 16 63 (some (.ref a) :: l) (.ref a :: r) M := r_aload_n (by decide +kernel : decode (mB 16) 62 = .ok (.aload_n 0, 1)) rfl
theorem t16_63 : rn 16 63 ls (.ref a :: r) M = if mK M a = (13, 0) then rn 16 66 ls (va_rf (mP M a 6) :: r) M else none := r_getP (ci := 3) (k := 6) (by decide +kernel : decode (mB 16) 63 = .ok (.getfield 21, 3)) (by decide +kernel) rfl
theorem t16_66 : rn 16 66 (a0 :: some (.ref a) :: l) r M = rn 16 67 (a0 :: some (.ref a) :: l) (.ref a :: r) M := r_aload_n (by decide +kernel : decode (mB 16) 66 = .ok (.aload_n 1, 1)) rfl
theorem t16_67 : rn 16 67 ls (.ref a :: r) M = if mK M a = (13, 0) then rn 16 70 ls (va_rf (mP M a 6) :: r) M else none := r_getP (ci := 3) (k := 6) (by decide +kernel : decode (mB 16) 67 = .ok (.getfield 21, 3)) (by decide +kernel) rfl
theorem t16_70 : rn 16 70 ls [.ref a, .ref b] M = if mK M b = (14, 0) then cbn (cl 17 [.ref b, .ref a] M) 16 73 ls [] else none := r_callV (kd := 0) (by decide +kernel : decode (mB 16) 70 = .ok (.invokevirtual 55, 3)) (by decide +kernel) ((doV_n np_17).trans rfl)
theorem t16_73 : rn 16 73 ls [] M = some (none, M) := r_vreturn (by decide +kernel : decode (mB 16) 73 = .ok (.return_, 1)) rfl
-- 17 Tree_copyFrom(LDependentReplay$Tree;)V
theorem t17_0 : rn 17 0 (a0 :: some (.ref a) :: l) r M = rn 17 1 (a0 :: some (.ref a) :: l) (.ref a :: r) M := r_aload_n (by decide +kernel : decode (mB 17) 0 = .ok (.aload_n 1, 1)) rfl
theorem t17_1 : rn 17 1 ls (.ref a :: r) M = if mK M a = (14, 0) then rn 17 4 ls (va_rf (mP M a 0) :: r) M else none := r_getP (ci := 4) (k := 0) (by decide +kernel : decode (mB 17) 1 = .ok (.getfield 9, 3)) (by decide +kernel) rfl
theorem t17_4 : rn 17 4 ls r M = rn 17 5 ls (.int 0 :: r) M := r_nx (by decide +kernel : decode (mB 17) 4 = .ok (.iconst 0, 1)) rfl rfl
theorem t17_5 : rn 17 5 (some (.ref a) :: l) r M = rn 17 6 (some (.ref a) :: l) (.ref a :: r) M := r_aload_n (by decide +kernel : decode (mB 17) 5 = .ok (.aload_n 0, 1)) rfl
theorem t17_6 : rn 17 6 ls (.ref a :: r) M = if mK M a = (14, 0) then rn 17 9 ls (va_rf (mP M a 0) :: r) M else none := r_getP (ci := 4) (k := 0) (by decide +kernel : decode (mB 17) 6 = .ok (.getfield 9, 3)) (by decide +kernel) rfl
theorem t17_9 : rn 17 9 ls r M = rn 17 10 ls (.int 0 :: r) M := r_nx (by decide +kernel : decode (mB 17) 9 = .ok (.iconst 0, 1)) rfl rfl
theorem t17_10 : rn 17 10 ls r M = rn 17 12 ls (.int 16 :: r) M := r_nx (by decide +kernel : decode (mB 17) 10 = .ok (.bipush 16, 2)) rfl rfl
theorem t17_12 : rn 17 12 ls [.int z, .int y, .ref a, .int x, .ref b] M = if (¬ x < 0 ∧ ¬ y < 0 ∧ ¬ z < 0) ∧ x.toNatClampNeg + z.toNatClampNeg ≤ (mK M b).2 ∧ y.toNatClampNeg + z.toNatClampNeg ≤ (mK M a).2 then (if (mK M a).1 = 1 ∧ (mK M b).1 = 1 then rn 17 15 ls [] (sI M a (va_cpy (mI M b) (mI M a) x.toNatClampNeg y.toNatClampNeg z.toNatClampNeg)) else if (mK M a).1 = 2 ∧ (mK M b).1 = 2 then rn 17 15 ls [] (sJ M a (va_cpy (mJ M b) (mJ M a) x.toNatClampNeg y.toNatClampNeg z.toNatClampNeg)) else none) else none := r_cpy (by decide +kernel : decode (mB 17) 12 = .ok (.invokestatic 27, 3)) (by decide +kernel) rfl
theorem t17_15 : rn 17 15 (a0 :: some (.ref a) :: l) r M = rn 17 16 (a0 :: some (.ref a) :: l) (.ref a :: r) M := r_aload_n (by decide +kernel : decode (mB 17) 15 = .ok (.aload_n 1, 1)) rfl
theorem t17_16 : rn 17 16 ls (.ref a :: r) M = if mK M a = (14, 0) then rn 17 19 ls (va_rf (mP M a 1) :: r) M else none := r_getP (ci := 4) (k := 1) (by decide +kernel : decode (mB 17) 16 = .ok (.getfield 15, 3)) (by decide +kernel) rfl
theorem t17_19 : rn 17 19 ls r M = rn 17 20 ls (.int 0 :: r) M := r_nx (by decide +kernel : decode (mB 17) 19 = .ok (.iconst 0, 1)) rfl rfl
theorem t17_20 : rn 17 20 (some (.ref a) :: l) r M = rn 17 21 (some (.ref a) :: l) (.ref a :: r) M := r_aload_n (by decide +kernel : decode (mB 17) 20 = .ok (.aload_n 0, 1)) rfl
theorem t17_21 : rn 17 21 ls (.ref a :: r) M = if mK M a = (14, 0) then rn 17 24 ls (va_rf (mP M a 1) :: r) M else none := r_getP (ci := 4) (k := 1) (by decide +kernel : decode (mB 17) 21 = .ok (.getfield 15, 3)) (by decide +kernel) rfl
theorem t17_24 : rn 17 24 ls r M = rn 17 25 ls (.int 0 :: r) M := r_nx (by decide +kernel : decode (mB 17) 24 = .ok (.iconst 0, 1)) rfl rfl
theorem t17_25 : rn 17 25 ls r M = rn 17 27 ls (.int 16 :: r) M := r_nx (by decide +kernel : decode (mB 17) 25 = .ok (.bipush 16, 2)) rfl rfl
theorem t17_27 : rn 17 27 ls [.int z, .int y, .ref a, .int x, .ref b] M = if (¬ x < 0 ∧ ¬ y < 0 ∧ ¬ z < 0) ∧ x.toNatClampNeg + z.toNatClampNeg ≤ (mK M b).2 ∧ y.toNatClampNeg + z.toNatClampNeg ≤ (mK M a).2 then (if (mK M a).1 = 1 ∧ (mK M b).1 = 1 then rn 17 30 ls [] (sI M a (va_cpy (mI M b) (mI M a) x.toNatClampNeg y.toNatClampNeg z.toNatClampNeg)) else if (mK M a).1 = 2 ∧ (mK M b).1 = 2 then rn 17 30 ls [] (sJ M a (va_cpy (mJ M b) (mJ M a) x.toNatClampNeg y.toNatClampNeg z.toNatClampNeg)) else none) else none := r_cpy (by decide +kernel : decode (mB 17) 27 = .ok (.invokestatic 27, 3)) (by decide +kernel) rfl
theorem t17_30 : rn 17 30 ls [] M = some (none, M) := r_vreturn (by decide +kernel : decode (mB 17) 30 = .ok (.return_, 1)) rfl
-- 18 State_writeEntry(III)I
theorem t18_0 : rn 18 0 (a0 :: a1 :: some (.int x) :: l) r M = rn 18 1 (a0 :: a1 :: some (.int x) :: l) (.int x :: r) M := r_iload_n (by decide +kernel : decode (mB 18) 0 = .ok (.iload_n 2, 1)) rfl
theorem t18_1 : rn 18 1 ls [.int x] M = cbn (cl 19 [.int x] M) 18 4 ls [] := r_callS (kd := 3) (by decide +kernel : decode (mB 18) 1 = .ok (.invokestatic 32, 3)) (by decide +kernel) (by decide +kernel) ((doS_n np_19).trans rfl)
theorem t18_4 : rn 18 4 ls (.int x :: r) M = if x = 0 then rn 18 11 ls r M else rn 18 7 ls r M := r_if (o := 7) (r := r) (c := x = 0) (by decide +kernel : decode (mB 18) 4 = .ok (.ifCond .eq 7, 3)) rfl (by decide) rfl
theorem t18_7 : rn 18 7 (a0 :: a1 :: some (.int x) :: l) r M = rn 18 8 (a0 :: a1 :: some (.int x) :: l) (.int x :: r) M := r_iload_n (by decide +kernel : decode (mB 18) 7 = .ok (.iload_n 2, 1)) rfl
theorem t18_8 : rn 18 8 ls (.int x :: r) M = if ¬ x = 0 then rn 18 13 ls r M else rn 18 11 ls r M := r_if (o := 5) (r := r) (c := ¬ x = 0) (by decide +kernel : decode (mB 18) 8 = .ok (.ifCond .ne 5, 3)) rfl (by decide) rfl
theorem t18_11 : rn 18 11 ls r M = rn 18 12 ls (.int (-1) :: r) M := r_nx (by decide +kernel : decode (mB 18) 11 = .ok (.iconst (-1), 1)) rfl rfl
theorem t18_12 : rn 18 12 ls [.int x] M = some (some (.int x), M) := r_ireturn (by decide +kernel : decode (mB 18) 12 = .ok (.ireturn, 1)) rfl
theorem t18_13 : rn 18 13 (a0 :: some (.int x) :: l) r M = rn 18 14 (a0 :: some (.int x) :: l) (.int x :: r) M := r_iload_n (by decide +kernel : decode (mB 18) 13 = .ok (.iload_n 1, 1)) rfl
theorem t18_14 : rn 18 14 ls [.int x] M = cbn (cl 20 [.int x] M) 18 17 ls [] := r_callS (kd := 3) (by decide +kernel : decode (mB 18) 14 = .ok (.invokestatic 36, 3)) (by decide +kernel) (by decide +kernel) ((doS_n np_20).trans rfl)
theorem t18_17 : rn 18 17 ls (.int x :: r) M = if x = 0 then rn 18 29 ls r M else rn 18 20 ls r M := r_if (o := 12) (r := r) (c := x = 0) (by decide +kernel : decode (mB 18) 17 = .ok (.ifCond .eq 12, 3)) rfl (by decide) rfl
theorem t18_20 : rn 18 20 (a0 :: a1 :: a2 :: some (.int x) :: l) r M = rn 18 21 (a0 :: a1 :: a2 :: some (.int x) :: l) (.int x :: r) M := r_iload_n (by decide +kernel : decode (mB 18) 20 = .ok (.iload_n 3, 1)) rfl
theorem t18_21 : rn 18 21 ls [.int x] M = cbn (cl 19 [.int x] M) 18 24 ls [] := r_callS (kd := 3) (by decide +kernel : decode (mB 18) 21 = .ok (.invokestatic 32, 3)) (by decide +kernel) (by decide +kernel) ((doS_n np_19).trans rfl)
theorem t18_24 : rn 18 24 ls (.int x :: r) M = if ¬ x = 0 then rn 18 29 ls r M else rn 18 27 ls r M := r_if (o := 5) (r := r) (c := ¬ x = 0) (by decide +kernel : decode (mB 18) 24 = .ok (.ifCond .ne 5, 3)) rfl (by decide) rfl
theorem t18_27 : rn 18 27 ls r M = rn 18 28 ls (.int (-1) :: r) M := r_nx (by decide +kernel : decode (mB 18) 27 = .ok (.iconst (-1), 1)) rfl rfl
theorem t18_28 : rn 18 28 ls [.int x] M = some (some (.int x), M) := r_ireturn (by decide +kernel : decode (mB 18) 28 = .ok (.ireturn, 1)) rfl
theorem t18_29 : rn 18 29 (a0 :: some (.int x) :: l) r M = rn 18 30 (a0 :: some (.int x) :: l) (.int x :: r) M := r_iload_n (by decide +kernel : decode (mB 18) 29 = .ok (.iload_n 1, 1)) rfl
theorem t18_30 : rn 18 30 ls r M = rn 18 31 ls (.int 1 :: r) M := r_nx (by decide +kernel : decode (mB 18) 30 = .ok (.iconst 1, 1)) rfl rfl
theorem t18_31 : rn 18 31 ls (.int y :: .int x :: r) M = if ¬ x = y then rn 18 48 ls r M else rn 18 34 ls r M := r_if (o := 17) (r := r) (c := ¬ x = y) (by decide +kernel : decode (mB 18) 31 = .ok (.if_icmp .ne 17, 3)) rfl (by decide) rfl
theorem t18_34 : rn 18 34 (a0 :: a1 :: a2 :: some (.int x) :: l) r M = rn 18 35 (a0 :: a1 :: a2 :: some (.int x) :: l) (.int x :: r) M := r_iload_n (by decide +kernel : decode (mB 18) 34 = .ok (.iload_n 3, 1)) rfl
theorem t18_35 : rn 18 35 ls (.int x :: r) M = if x < 0 then rn 18 45 ls r M else rn 18 38 ls r M := r_if (o := 10) (r := r) (c := x < 0) (by decide +kernel : decode (mB 18) 35 = .ok (.ifCond .lt 10, 3)) rfl (by decide) rfl
theorem t18_38 : rn 18 38 (a0 :: a1 :: a2 :: some (.int x) :: l) r M = rn 18 39 (a0 :: a1 :: a2 :: some (.int x) :: l) (.int x :: r) M := r_iload_n (by decide +kernel : decode (mB 18) 38 = .ok (.iload_n 3, 1)) rfl
theorem t18_39 : rn 18 39 ls r M = rn 18 42 ls (.int 1000 :: r) M := r_nx (by decide +kernel : decode (mB 18) 39 = .ok (.sipush 1000, 3)) rfl rfl
theorem t18_42 : rn 18 42 ls (.int y :: .int x :: r) M = if x < y then rn 18 48 ls r M else rn 18 45 ls r M := r_if (o := 6) (r := r) (c := x < y) (by decide +kernel : decode (mB 18) 42 = .ok (.if_icmp .lt 6, 3)) rfl (by decide) rfl
theorem t18_45 : rn 18 45 ls r M = rn 18 47 ls (.int (-2) :: r) M := r_nx (by decide +kernel : decode (mB 18) 45 = .ok (.bipush (-2), 2)) rfl rfl
theorem t18_47 : rn 18 47 ls [.int x] M = some (some (.int x), M) := r_ireturn (by decide +kernel : decode (mB 18) 47 = .ok (.ireturn, 1)) rfl
theorem t18_48 : rn 18 48 (some (.ref a) :: l) r M = rn 18 49 (some (.ref a) :: l) (.ref a :: r) M := r_aload_n (by decide +kernel : decode (mB 18) 48 = .ok (.aload_n 0, 1)) rfl
theorem t18_49 : rn 18 49 ls (.ref a :: r) M = if mK M a = (11, 0) then rn 18 52 ls (va_rf (mP M a 0) :: r) M else none := r_getP (ci := 1) (k := 0) (by decide +kernel : decode (mB 18) 49 = .ok (.getfield 12, 3)) (by decide +kernel) rfl
theorem t18_52 : rn 18 52 (a0 :: some (.int x) :: l) r M = rn 18 53 (a0 :: some (.int x) :: l) (.int x :: r) M := r_iload_n (by decide +kernel : decode (mB 18) 52 = .ok (.iload_n 1, 1)) rfl
theorem t18_53 : rn 18 53 (a0 :: a1 :: some (.int x) :: l) r M = rn 18 54 (a0 :: a1 :: some (.int x) :: l) (.int x :: r) M := r_iload_n (by decide +kernel : decode (mB 18) 53 = .ok (.iload_n 2, 1)) rfl
theorem t18_54 : rn 18 54 (a0 :: a1 :: a2 :: some (.int x) :: l) r M = rn 18 55 (a0 :: a1 :: a2 :: some (.int x) :: l) (.int x :: r) M := r_iload_n (by decide +kernel : decode (mB 18) 54 = .ok (.iload_n 3, 1)) rfl
theorem t18_55 : rn 18 55 ls [.int x, .int y, .int z, .ref a] M = if mK M a = (12, 0) then cbn (cl 21 [.ref a, .int z, .int y, .int x] M) 18 58 ls [] else none := r_callV (kd := 0) (by decide +kernel : decode (mB 18) 55 = .ok (.invokevirtual 39, 3)) (by decide +kernel) ((doV_n np_21).trans rfl)
theorem t18_58 : rn 18 58 ls [.int x] M = some (some (.int x), M) := r_ireturn (by decide +kernel : decode (mB 18) 58 = .ok (.ireturn, 1)) rfl
-- 21 Log_append(III)I
theorem t21_0 : rn 21 0 (some (.ref a) :: l) r M = rn 21 1 (some (.ref a) :: l) (.ref a :: r) M := r_aload_n (by decide +kernel : decode (mB 21) 0 = .ok (.aload_n 0, 1)) rfl
theorem t21_1 : rn 21 1 ls (.ref a :: r) M = if mK M a = (12, 0) then rn 21 4 ls (.int (mI M a 0) :: r) M else none := r_getI (ci := 2) (k := 0) (by decide +kernel : decode (mB 21) 1 = .ok (.getfield 28, 3)) (by decide +kernel) (Or.inl rfl)
theorem t21_4 : rn 21 4 ls r M = rn 21 6 ls (.int 40 :: r) M := r_nx (by decide +kernel : decode (mB 21) 4 = .ok (.bipush 40, 2)) rfl rfl
theorem t21_6 : rn 21 6 ls (.int y :: .int x :: r) M = if x < y then rn 21 12 ls r M else rn 21 9 ls r M := r_if (o := 6) (r := r) (c := x < y) (by decide +kernel : decode (mB 21) 6 = .ok (.if_icmp .lt 6, 3)) rfl (by decide) rfl
theorem t21_9 : rn 21 9 ls r M = rn 21 11 ls (.int (-4) :: r) M := r_nx (by decide +kernel : decode (mB 21) 9 = .ok (.bipush (-4), 2)) rfl rfl
theorem t21_11 : rn 21 11 ls [.int x] M = some (some (.int x), M) := r_ireturn (by decide +kernel : decode (mB 21) 11 = .ok (.ireturn, 1)) rfl
theorem t21_12 : rn 21 12 (some (.ref a) :: l) r M = rn 21 13 (some (.ref a) :: l) (.ref a :: r) M := r_aload_n (by decide +kernel : decode (mB 21) 12 = .ok (.aload_n 0, 1)) rfl
theorem t21_13 : rn 21 13 ls (.ref a :: r) M = if mK M a = (12, 0) then rn 21 16 ls (.int (mI M a 0) :: r) M else none := r_getI (ci := 2) (k := 0) (by decide +kernel : decode (mB 21) 13 = .ok (.getfield 28, 3)) (by decide +kernel) (Or.inl rfl)
theorem t21_16 : rn 21 16 (a0 :: a1 :: a2 :: a3 :: a4 :: l) (.int x :: r) M = rn 21 18 (a0 :: a1 :: a2 :: a3 :: some (.int x) :: l) r M := r_istore (by decide +kernel : decode (mB 21) 16 = .ok (.istore 4, 2)) (Nat.le_add_left 5 l.length)
theorem t21_18 : rn 21 18 (some (.ref a) :: l) r M = rn 21 19 (some (.ref a) :: l) (.ref a :: r) M := r_aload_n (by decide +kernel : decode (mB 21) 18 = .ok (.aload_n 0, 1)) rfl
theorem t21_19 : rn 21 19 ls (.ref a :: r) M = if mK M a = (12, 0) then rn 21 22 ls (va_rf (mP M a 2) :: r) M else none := r_getP (ci := 2) (k := 2) (by decide +kernel : decode (mB 21) 19 = .ok (.getfield 9, 3)) (by decide +kernel) rfl
theorem t21_22 : rn 21 22 (a0 :: a1 :: a2 :: a3 :: some (.int x) :: l) r M = rn 21 24 (a0 :: a1 :: a2 :: a3 :: some (.int x) :: l) (.int x :: r) M := r_iload (by decide +kernel : decode (mB 21) 22 = .ok (.iload 4, 2)) rfl
theorem t21_24 : rn 21 24 (a0 :: some (.int x) :: l) r M = rn 21 25 (a0 :: some (.int x) :: l) (.int x :: r) M := r_iload_n (by decide +kernel : decode (mB 21) 24 = .ok (.iload_n 1, 1)) rfl
theorem t21_25 : rn 21 25 ls (.int y :: .int x :: .ref a :: r) M = if (mK M a).1 = 1 ∧ inR x (mK M a).2 then rn 21 26 ls r (sI M a (va_up (mI M a) x.toNatClampNeg y)) else none := r_cnd (by decide +kernel : decode (mB 21) 25 = .ok (.iastore, 1)) rfl rfl
theorem t21_26 : rn 21 26 (some (.ref a) :: l) r M = rn 21 27 (some (.ref a) :: l) (.ref a :: r) M := r_aload_n (by decide +kernel : decode (mB 21) 26 = .ok (.aload_n 0, 1)) rfl
theorem t21_27 : rn 21 27 ls (.ref a :: r) M = if mK M a = (12, 0) then rn 21 30 ls (va_rf (mP M a 3) :: r) M else none := r_getP (ci := 2) (k := 3) (by decide +kernel : decode (mB 21) 27 = .ok (.getfield 15, 3)) (by decide +kernel) rfl
theorem t21_30 : rn 21 30 (a0 :: a1 :: a2 :: a3 :: some (.int x) :: l) r M = rn 21 32 (a0 :: a1 :: a2 :: a3 :: some (.int x) :: l) (.int x :: r) M := r_iload (by decide +kernel : decode (mB 21) 30 = .ok (.iload 4, 2)) rfl
theorem t21_32 : rn 21 32 (a0 :: a1 :: some (.int x) :: l) r M = rn 21 33 (a0 :: a1 :: some (.int x) :: l) (.int x :: r) M := r_iload_n (by decide +kernel : decode (mB 21) 32 = .ok (.iload_n 2, 1)) rfl
theorem t21_33 : rn 21 33 ls (.int y :: .int x :: .ref a :: r) M = if (mK M a).1 = 1 ∧ inR x (mK M a).2 then rn 21 34 ls r (sI M a (va_up (mI M a) x.toNatClampNeg y)) else none := r_cnd (by decide +kernel : decode (mB 21) 33 = .ok (.iastore, 1)) rfl rfl
theorem t21_34 : rn 21 34 (some (.ref a) :: l) r M = rn 21 35 (some (.ref a) :: l) (.ref a :: r) M := r_aload_n (by decide +kernel : decode (mB 21) 34 = .ok (.aload_n 0, 1)) rfl
theorem t21_35 : rn 21 35 ls (.ref a :: r) M = if mK M a = (12, 0) then rn 21 38 ls (va_rf (mP M a 4) :: r) M else none := r_getP (ci := 2) (k := 4) (by decide +kernel : decode (mB 21) 35 = .ok (.getfield 18, 3)) (by decide +kernel) rfl
theorem t21_38 : rn 21 38 (a0 :: a1 :: a2 :: a3 :: some (.int x) :: l) r M = rn 21 40 (a0 :: a1 :: a2 :: a3 :: some (.int x) :: l) (.int x :: r) M := r_iload (by decide +kernel : decode (mB 21) 38 = .ok (.iload 4, 2)) rfl
theorem t21_40 : rn 21 40 (a0 :: a1 :: a2 :: some (.int x) :: l) r M = rn 21 41 (a0 :: a1 :: a2 :: some (.int x) :: l) (.int x :: r) M := r_iload_n (by decide +kernel : decode (mB 21) 40 = .ok (.iload_n 3, 1)) rfl
theorem t21_41 : rn 21 41 ls (.int y :: .int x :: .ref a :: r) M = if (mK M a).1 = 1 ∧ inR x (mK M a).2 then rn 21 42 ls r (sI M a (va_up (mI M a) x.toNatClampNeg y)) else none := r_cnd (by decide +kernel : decode (mB 21) 41 = .ok (.iastore, 1)) rfl rfl
theorem t21_42 : rn 21 42 (some (.ref a) :: l) r M = rn 21 43 (some (.ref a) :: l) (.ref a :: r) M := r_aload_n (by decide +kernel : decode (mB 21) 42 = .ok (.aload_n 0, 1)) rfl
theorem t21_43 : rn 21 43 ls (.ref a :: r) M = if mK M a = (12, 0) then rn 21 46 ls (va_rf (mP M a 5) :: r) M else none := r_getP (ci := 2) (k := 5) (by decide +kernel : decode (mB 21) 43 = .ok (.getfield 21, 3)) (by decide +kernel) rfl
theorem t21_46 : rn 21 46 (a0 :: a1 :: a2 :: a3 :: some (.int x) :: l) r M = rn 21 48 (a0 :: a1 :: a2 :: a3 :: some (.int x) :: l) (.int x :: r) M := r_iload (by decide +kernel : decode (mB 21) 46 = .ok (.iload 4, 2)) rfl
theorem t21_48 : rn 21 48 (some (.ref a) :: l) r M = rn 21 49 (some (.ref a) :: l) (.ref a :: r) M := r_aload_n (by decide +kernel : decode (mB 21) 48 = .ok (.aload_n 0, 1)) rfl
theorem t21_49 : rn 21 49 (a0 :: some (.int x) :: l) r M = rn 21 50 (a0 :: some (.int x) :: l) (.int x :: r) M := r_iload_n (by decide +kernel : decode (mB 21) 49 = .ok (.iload_n 1, 1)) rfl
theorem t21_50 : rn 21 50 (a0 :: a1 :: some (.int x) :: l) r M = rn 21 51 (a0 :: a1 :: some (.int x) :: l) (.int x :: r) M := r_iload_n (by decide +kernel : decode (mB 21) 50 = .ok (.iload_n 2, 1)) rfl
theorem t21_51 : rn 21 51 (a0 :: a1 :: a2 :: some (.int x) :: l) r M = rn 21 52 (a0 :: a1 :: a2 :: some (.int x) :: l) (.int x :: r) M := r_iload_n (by decide +kernel : decode (mB 21) 51 = .ok (.iload_n 3, 1)) rfl
theorem t21_52 : rn 21 52 ls [.int x, .int y, .int z, .ref a, .int w, .ref b] M = if mK M a = (12, 0) then cbn (cl 22 [.ref a, .int z, .int y, .int x] M) 21 55 ls [.int w, .ref b] else none := r_callV (kd := 0) (by decide +kernel : decode (mB 21) 52 = .ok (.invokevirtual 42, 3)) (by decide +kernel) ((doV_n np_22).trans rfl)
theorem t21_55 : rn 21 55 ls (.long u :: .int x :: .ref a :: r) M = if (mK M a).1 = 2 ∧ inR x (mK M a).2 then rn 21 56 ls r (sJ M a (va_up (mJ M a) x.toNatClampNeg u)) else none := r_cnd (by decide +kernel : decode (mB 21) 55 = .ok (.lastore, 1)) rfl rfl
theorem t21_56 : rn 21 56 (some (.ref a) :: l) r M = rn 21 57 (some (.ref a) :: l) (.ref a :: r) M := r_aload_n (by decide +kernel : decode (mB 21) 56 = .ok (.aload_n 0, 1)) rfl
theorem t21_57 : rn 21 57 ls (.ref a :: r) M = rn 21 58 ls (.ref a :: .ref a :: r) M := r_nx (by decide +kernel : decode (mB 21) 57 = .ok (.dup, 1)) rfl rfl
theorem t21_58 : rn 21 58 ls (.ref a :: r) M = if mK M a = (12, 0) then rn 21 61 ls (.int (mI M a 0) :: r) M else none := r_getI (ci := 2) (k := 0) (by decide +kernel : decode (mB 21) 58 = .ok (.getfield 28, 3)) (by decide +kernel) (Or.inl rfl)
theorem t21_61 : rn 21 61 ls r M = rn 21 62 ls (.int 1 :: r) M := r_nx (by decide +kernel : decode (mB 21) 61 = .ok (.iconst 1, 1)) rfl rfl
theorem t21_62 : rn 21 62 ls (.int y :: .int x :: r) M = rn 21 63 ls (.int (x + y) :: r) M := r_nx (by decide +kernel : decode (mB 21) 62 = .ok (.iadd, 1)) rfl rfl
theorem t21_63 : rn 21 63 ls (.int x :: .ref a :: r) M = if mK M a = (12, 0) then rn 21 66 ls r (sI M a (va_up (mI M a) 0 x)) else none := r_putI (ci := 2) (k := 0) (by decide +kernel : decode (mB 21) 63 = .ok (.putfield 28, 3)) (by decide +kernel) rfl rfl
theorem t21_66 : rn 21 66 (some (.ref a) :: l) r M = rn 21 67 (some (.ref a) :: l) (.ref a :: r) M := r_aload_n (by decide +kernel : decode (mB 21) 66 = .ok (.aload_n 0, 1)) rfl
theorem t21_67 : rn 21 67 (a0 :: a1 :: a2 :: a3 :: some (.int x) :: l) r M = rn 21 69 (a0 :: a1 :: a2 :: a3 :: some (.int x) :: l) (.int x :: r) M := r_iload (by decide +kernel : decode (mB 21) 67 = .ok (.iload 4, 2)) rfl
theorem t21_69 : rn 21 69 ls [.int x, .ref a] M = if mK M a = (12, 0) then cbn (cl 26 [.ref a, .int x] M) 21 72 ls [] else none := r_callV (kd := 0) (by decide +kernel : decode (mB 21) 69 = .ok (.invokevirtual 46, 3)) (by decide +kernel) ((doV_n np_26).trans rfl)
theorem t21_72 : rn 21 72 (a0 :: a1 :: a2 :: a3 :: some (.int x) :: l) r M = rn 21 74 (a0 :: a1 :: a2 :: a3 :: some (.int x) :: l) (.int x :: r) M := r_iload (by decide +kernel : decode (mB 21) 72 = .ok (.iload 4, 2)) rfl
theorem t21_74 : rn 21 74 ls [.int x] M = some (some (.int x), M) := r_ireturn (by decide +kernel : decode (mB 21) 74 = .ok (.ireturn, 1)) rfl
-- 22 Log_firstNeeds(III)J
theorem t22_0 : rn 22 0 (some (.ref a) :: l) r M = rn 22 1 (some (.ref a) :: l) (.ref a :: r) M := r_aload_n (by decide +kernel : decode (mB 22) 0 = .ok (.aload_n 0, 1)) rfl
theorem t22_1 : rn 22 1 (a0 :: a1 :: some (.int x) :: l) r M = rn 22 2 (a0 :: a1 :: some (.int x) :: l) (.int x :: r) M := r_iload_n (by decide +kernel : decode (mB 22) 1 = .ok (.iload_n 2, 1)) rfl
theorem t22_2 : rn 22 2 ls [.int x, .ref a] M = if mK M a = (12, 0) then cbn (cl 23 [.ref a, .int x] M) 22 5 ls [] else none := r_callV (kd := 0) (by decide +kernel : decode (mB 22) 2 = .ok (.invokevirtual 50, 3)) (by decide +kernel) ((doV_n np_23).trans rfl)
theorem t22_5 : rn 22 5 (a0 :: a1 :: a2 :: a3 :: a4 :: a5 :: l) (.long u :: r) M = rn 22 7 (a0 :: a1 :: a2 :: a3 :: some (.long u) :: none :: l) r M := r_lstore (by decide +kernel : decode (mB 22) 5 = .ok (.lstore 4, 2)) (Nat.le_add_left 6 l.length)
theorem t22_7 : rn 22 7 (a0 :: some (.int x) :: l) r M = rn 22 8 (a0 :: some (.int x) :: l) (.int x :: r) M := r_iload_n (by decide +kernel : decode (mB 22) 7 = .ok (.iload_n 1, 1)) rfl
theorem t22_8 : rn 22 8 ls [.int x] M = cbn (cl 20 [.int x] M) 22 11 ls [] := r_callS (kd := 3) (by decide +kernel : decode (mB 22) 8 = .ok (.invokestatic 54, 3)) (by decide +kernel) (by decide +kernel) ((doS_n np_20).trans rfl)
theorem t22_11 : rn 22 11 ls (.int x :: r) M = if x = 0 then rn 22 28 ls r M else rn 22 14 ls r M := r_if (o := 17) (r := r) (c := x = 0) (by decide +kernel : decode (mB 22) 11 = .ok (.ifCond .eq 17, 3)) rfl (by decide) rfl
theorem t22_14 : rn 22 14 (a0 :: a1 :: a2 :: some (.int x) :: l) r M = rn 22 15 (a0 :: a1 :: a2 :: some (.int x) :: l) (.int x :: r) M := r_iload_n (by decide +kernel : decode (mB 22) 14 = .ok (.iload_n 3, 1)) rfl
theorem t22_15 : rn 22 15 ls (.int x :: r) M = if x = 0 then rn 22 28 ls r M else rn 22 18 ls r M := r_if (o := 13) (r := r) (c := x = 0) (by decide +kernel : decode (mB 22) 15 = .ok (.ifCond .eq 13, 3)) rfl (by decide) rfl
theorem t22_18 : rn 22 18 (a0 :: a1 :: a2 :: a3 :: some (.long u) :: none :: l) r M = rn 22 20 (a0 :: a1 :: a2 :: a3 :: some (.long u) :: none :: l) (.long u :: r) M := r_lload (by decide +kernel : decode (mB 22) 18 = .ok (.lload 4, 2)) rfl rfl
theorem t22_20 : rn 22 20 (some (.ref a) :: l) r M = rn 22 21 (some (.ref a) :: l) (.ref a :: r) M := r_aload_n (by decide +kernel : decode (mB 22) 20 = .ok (.aload_n 0, 1)) rfl
theorem t22_21 : rn 22 21 (a0 :: a1 :: a2 :: some (.int x) :: l) r M = rn 22 22 (a0 :: a1 :: a2 :: some (.int x) :: l) (.int x :: r) M := r_iload_n (by decide +kernel : decode (mB 22) 21 = .ok (.iload_n 3, 1)) rfl
theorem t22_22 : rn 22 22 ls [.int x, .ref a, .long u] M = if mK M a = (12, 0) then cbn (cl 23 [.ref a, .int x] M) 22 25 ls [.long u] else none := r_callV (kd := 0) (by decide +kernel : decode (mB 22) 22 = .ok (.invokevirtual 50, 3)) (by decide +kernel) ((doV_n np_23).trans rfl)
theorem t22_25 : rn 22 25 ls (.long v :: .long u :: r) M = rn 22 26 ls (.long (u ||| v) :: r) M := r_nx (by decide +kernel : decode (mB 22) 25 = .ok (.lor, 1)) rfl rfl
theorem t22_26 : rn 22 26 (a0 :: a1 :: a2 :: a3 :: a4 :: a5 :: l) (.long u :: r) M = rn 22 28 (a0 :: a1 :: a2 :: a3 :: some (.long u) :: none :: l) r M := r_lstore (by decide +kernel : decode (mB 22) 26 = .ok (.lstore 4, 2)) (Nat.le_add_left 6 l.length)
theorem t22_28 : rn 22 28 (a0 :: some (.int x) :: l) r M = rn 22 29 (a0 :: some (.int x) :: l) (.int x :: r) M := r_iload_n (by decide +kernel : decode (mB 22) 28 = .ok (.iload_n 1, 1)) rfl
theorem t22_29 : rn 22 29 ls r M = rn 22 30 ls (.int 3 :: r) M := r_nx (by decide +kernel : decode (mB 22) 29 = .ok (.iconst 3, 1)) rfl rfl
theorem t22_30 : rn 22 30 ls (.int y :: .int x :: r) M = if ¬ x = y then rn 22 43 ls r M else rn 22 33 ls r M := r_if (o := 13) (r := r) (c := ¬ x = y) (by decide +kernel : decode (mB 22) 30 = .ok (.if_icmp .ne 13, 3)) rfl (by decide) rfl
theorem t22_33 : rn 22 33 (a0 :: a1 :: a2 :: a3 :: some (.long u) :: none :: l) r M = rn 22 35 (a0 :: a1 :: a2 :: a3 :: some (.long u) :: none :: l) (.long u :: r) M := r_lload (by decide +kernel : decode (mB 22) 33 = .ok (.lload 4, 2)) rfl rfl
theorem t22_35 : rn 22 35 (some (.ref a) :: l) r M = rn 22 36 (some (.ref a) :: l) (.ref a :: r) M := r_aload_n (by decide +kernel : decode (mB 22) 35 = .ok (.aload_n 0, 1)) rfl
theorem t22_36 : rn 22 36 (a0 :: a1 :: some (.int x) :: l) r M = rn 22 37 (a0 :: a1 :: some (.int x) :: l) (.int x :: r) M := r_iload_n (by decide +kernel : decode (mB 22) 36 = .ok (.iload_n 2, 1)) rfl
theorem t22_37 : rn 22 37 ls [.int x, .ref a, .long u] M = if mK M a = (12, 0) then cbn (cl 25 [.ref a, .int x] M) 22 40 ls [.long u] else none := r_callV (kd := 0) (by decide +kernel : decode (mB 22) 37 = .ok (.invokevirtual 58, 3)) (by decide +kernel) ((doV_n np_25).trans rfl)
theorem t22_40 : rn 22 40 ls (.long v :: .long u :: r) M = rn 22 41 ls (.long (u ||| v) :: r) M := r_nx (by decide +kernel : decode (mB 22) 40 = .ok (.lor, 1)) rfl rfl
theorem t22_41 : rn 22 41 (a0 :: a1 :: a2 :: a3 :: a4 :: a5 :: l) (.long u :: r) M = rn 22 43 (a0 :: a1 :: a2 :: a3 :: some (.long u) :: none :: l) r M := r_lstore (by decide +kernel : decode (mB 22) 41 = .ok (.lstore 4, 2)) (Nat.le_add_left 6 l.length)
theorem t22_43 : rn 22 43 (a0 :: a1 :: a2 :: a3 :: some (.long u) :: none :: l) r M = rn 22 45 (a0 :: a1 :: a2 :: a3 :: some (.long u) :: none :: l) (.long u :: r) M := r_lload (by decide +kernel : decode (mB 22) 43 = .ok (.lload 4, 2)) rfl rfl
theorem t22_45 : rn 22 45 ls [.long u] M = some (some (.long u), M) := r_lreturn (by decide +kernel : decode (mB 22) 45 = .ok (.lreturn, 1)) rfl
-- 23 Log_latestOfFile(I)J
theorem t23_0 : rn 23 0 (some (.ref a) :: l) r M = rn 23 1 (some (.ref a) :: l) (.ref a :: r) M := r_aload_n (by decide +kernel : decode (mB 23) 0 = .ok (.aload_n 0, 1)) rfl
theorem t23_1 : rn 23 1 ls (.ref a :: r) M = if mK M a = (12, 0) then rn 23 4 ls (.int (mI M a 0) :: r) M else none := r_getI (ci := 2) (k := 0) (by decide +kernel : decode (mB 23) 1 = .ok (.getfield 28, 3)) (by decide +kernel) (Or.inl rfl)
theorem t23_4 : rn 23 4 ls r M = rn 23 5 ls (.int 1 :: r) M := r_nx (by decide +kernel : decode (mB 23) 4 = .ok (.iconst 1, 1)) rfl rfl
theorem t23_5 : rn 23 5 ls (.int y :: .int x :: r) M = rn 23 6 ls (.int (x - y) :: r) M := r_nx (by decide +kernel : decode (mB 23) 5 = .ok (.isub, 1)) rfl rfl
theorem t23_6 : rn 23 6 (a0 :: a1 :: a2 :: l) (.int x :: r) M = rn 23 7 (a0 :: a1 :: some (.int x) :: l) r M := r_istore_n (by decide +kernel : decode (mB 23) 6 = .ok (.istore_n 2, 1)) (Nat.le_add_left 3 l.length)
theorem t23_7 : rn 23 7 (a0 :: a1 :: some (.int x) :: l) r M = rn 23 8 (a0 :: a1 :: some (.int x) :: l) (.int x :: r) M := r_iload_n (by decide +kernel : decode (mB 23) 7 = .ok (.iload_n 2, 1)) rfl
theorem t23_8 : rn 23 8 ls (.int x :: r) M = if x < 0 then rn 23 32 ls r M else rn 23 11 ls r M := r_if (o := 24) (r := r) (c := x < 0) (by decide +kernel : decode (mB 23) 8 = .ok (.ifCond .lt 24, 3)) rfl (by decide) rfl
theorem t23_11 : rn 23 11 (some (.ref a) :: l) r M = rn 23 12 (some (.ref a) :: l) (.ref a :: r) M := r_aload_n (by decide +kernel : decode (mB 23) 11 = .ok (.aload_n 0, 1)) rfl
theorem t23_12 : rn 23 12 ls (.ref a :: r) M = if mK M a = (12, 0) then rn 23 15 ls (va_rf (mP M a 3) :: r) M else none := r_getP (ci := 2) (k := 3) (by decide +kernel : decode (mB 23) 12 = .ok (.getfield 15, 3)) (by decide +kernel) rfl
theorem t23_15 : rn 23 15 (a0 :: a1 :: some (.int x) :: l) r M = rn 23 16 (a0 :: a1 :: some (.int x) :: l) (.int x :: r) M := r_iload_n (by decide +kernel : decode (mB 23) 15 = .ok (.iload_n 2, 1)) rfl
theorem t23_16 : rn 23 16 ls (.int x :: .ref a :: r) M = if ((mK M a).1 = 1 ∨ (mK M a).1 = 5) ∧ inR x (mK M a).2 then rn 23 17 ls (.int (mI M a x.toNatClampNeg) :: r) M else none := r_cnd (by decide +kernel : decode (mB 23) 16 = .ok (.iaload, 1)) rfl rfl
theorem t23_17 : rn 23 17 (a0 :: some (.int x) :: l) r M = rn 23 18 (a0 :: some (.int x) :: l) (.int x :: r) M := r_iload_n (by decide +kernel : decode (mB 23) 17 = .ok (.iload_n 1, 1)) rfl
theorem t23_18 : rn 23 18 ls (.int y :: .int x :: r) M = if ¬ x = y then rn 23 26 ls r M else rn 23 21 ls r M := r_if (o := 8) (r := r) (c := ¬ x = y) (by decide +kernel : decode (mB 23) 18 = .ok (.if_icmp .ne 8, 3)) rfl (by decide) rfl
theorem t23_21 : rn 23 21 (a0 :: a1 :: some (.int x) :: l) r M = rn 23 22 (a0 :: a1 :: some (.int x) :: l) (.int x :: r) M := r_iload_n (by decide +kernel : decode (mB 23) 21 = .ok (.iload_n 2, 1)) rfl
theorem t23_22 : rn 23 22 ls [.int x] M = cbn (cl 24 [.int x] M) 23 25 ls [] := r_callS (kd := 3) (by decide +kernel : decode (mB 23) 22 = .ok (.invokestatic 61, 3)) (by decide +kernel) (by decide +kernel) ((doS_n np_24).trans rfl)
theorem t23_25 : rn 23 25 ls [.long u] M = some (some (.long u), M) := r_lreturn (by decide +kernel : decode (mB 23) 25 = .ok (.lreturn, 1)) rfl
theorem t23_26 : rn 23 26 (a0 :: a1 :: some (.int x) :: l) r M = rn 23 29 (a0 :: a1 :: some (.int (x + (-1))) :: l) r M := r_iinc (by decide +kernel : decode (mB 23) 26 = .ok (.iinc 2 (-1), 3)) rfl
theorem t23_29 : rn 23 29 ls r M = rn 23 7 ls r M := r_goto (o := (-22)) (by decide +kernel : decode (mB 23) 29 = .ok (.goto (-22), 3)) (by decide)
theorem t23_32 : rn 23 32 ls r M = rn 23 33 ls (.long 0 :: r) M := r_nx (by decide +kernel : decode (mB 23) 32 = .ok (.lconst 0, 1)) rfl rfl
theorem t23_33 : rn 23 33 ls [.long u] M = some (some (.long u), M) := r_lreturn (by decide +kernel : decode (mB 23) 33 = .ok (.lreturn, 1)) rfl
-- 25 Log_latestInDirectory(I)J
theorem t25_0 : rn 25 0 (some (.ref a) :: l) r M = rn 25 1 (some (.ref a) :: l) (.ref a :: r) M := r_aload_n (by decide +kernel : decode (mB 25) 0 = .ok (.aload_n 0, 1)) rfl
theorem t25_1 : rn 25 1 ls (.ref a :: r) M = if mK M a = (12, 0) then rn 25 4 ls (.int (mI M a 0) :: r) M else none := r_getI (ci := 2) (k := 0) (by decide +kernel : decode (mB 25) 1 = .ok (.getfield 28, 3)) (by decide +kernel) (Or.inl rfl)
theorem t25_4 : rn 25 4 ls r M = rn 25 5 ls (.int 1 :: r) M := r_nx (by decide +kernel : decode (mB 25) 4 = .ok (.iconst 1, 1)) rfl rfl
theorem t25_5 : rn 25 5 ls (.int y :: .int x :: r) M = rn 25 6 ls (.int (x - y) :: r) M := r_nx (by decide +kernel : decode (mB 25) 5 = .ok (.isub, 1)) rfl rfl
theorem t25_6 : rn 25 6 (a0 :: a1 :: a2 :: l) (.int x :: r) M = rn 25 7 (a0 :: a1 :: some (.int x) :: l) r M := r_istore_n (by decide +kernel : decode (mB 25) 6 = .ok (.istore_n 2, 1)) (Nat.le_add_left 3 l.length)
theorem t25_7 : rn 25 7 (a0 :: a1 :: some (.int x) :: l) r M = rn 25 8 (a0 :: a1 :: some (.int x) :: l) (.int x :: r) M := r_iload_n (by decide +kernel : decode (mB 25) 7 = .ok (.iload_n 2, 1)) rfl
theorem t25_8 : rn 25 8 ls (.int x :: r) M = if x < 0 then rn 25 44 ls r M else rn 25 11 ls r M := r_if (o := 36) (r := r) (c := x < 0) (by decide +kernel : decode (mB 25) 8 = .ok (.ifCond .lt 36, 3)) rfl (by decide) rfl
theorem t25_11 : rn 25 11 (some (.ref a) :: l) r M = rn 25 12 (some (.ref a) :: l) (.ref a :: r) M := r_aload_n (by decide +kernel : decode (mB 25) 11 = .ok (.aload_n 0, 1)) rfl
theorem t25_12 : rn 25 12 ls (.ref a :: r) M = if mK M a = (12, 0) then rn 25 15 ls (va_rf (mP M a 2) :: r) M else none := r_getP (ci := 2) (k := 2) (by decide +kernel : decode (mB 25) 12 = .ok (.getfield 9, 3)) (by decide +kernel) rfl
theorem t25_15 : rn 25 15 (a0 :: a1 :: some (.int x) :: l) r M = rn 25 16 (a0 :: a1 :: some (.int x) :: l) (.int x :: r) M := r_iload_n (by decide +kernel : decode (mB 25) 15 = .ok (.iload_n 2, 1)) rfl
theorem t25_16 : rn 25 16 ls (.int x :: .ref a :: r) M = if ((mK M a).1 = 1 ∨ (mK M a).1 = 5) ∧ inR x (mK M a).2 then rn 25 17 ls (.int (mI M a x.toNatClampNeg) :: r) M else none := r_cnd (by decide +kernel : decode (mB 25) 16 = .ok (.iaload, 1)) rfl rfl
theorem t25_17 : rn 25 17 ls [.int x] M = cbn (cl 20 [.int x] M) 25 20 ls [] := r_callS (kd := 3) (by decide +kernel : decode (mB 25) 17 = .ok (.invokestatic 54, 3)) (by decide +kernel) (by decide +kernel) ((doS_n np_20).trans rfl)
theorem t25_20 : rn 25 20 ls (.int x :: r) M = if x = 0 then rn 25 38 ls r M else rn 25 23 ls r M := r_if (o := 18) (r := r) (c := x = 0) (by decide +kernel : decode (mB 25) 20 = .ok (.ifCond .eq 18, 3)) rfl (by decide) rfl
theorem t25_23 : rn 25 23 (some (.ref a) :: l) r M = rn 25 24 (some (.ref a) :: l) (.ref a :: r) M := r_aload_n (by decide +kernel : decode (mB 25) 23 = .ok (.aload_n 0, 1)) rfl
theorem t25_24 : rn 25 24 ls (.ref a :: r) M = if mK M a = (12, 0) then rn 25 27 ls (va_rf (mP M a 4) :: r) M else none := r_getP (ci := 2) (k := 4) (by decide +kernel : decode (mB 25) 24 = .ok (.getfield 18, 3)) (by decide +kernel) rfl
theorem t25_27 : rn 25 27 (a0 :: a1 :: some (.int x) :: l) r M = rn 25 28 (a0 :: a1 :: some (.int x) :: l) (.int x :: r) M := r_iload_n (by decide +kernel : decode (mB 25) 27 = .ok (.iload_n 2, 1)) rfl
theorem t25_28 : rn 25 28 ls (.int x :: .ref a :: r) M = if ((mK M a).1 = 1 ∨ (mK M a).1 = 5) ∧ inR x (mK M a).2 then rn 25 29 ls (.int (mI M a x.toNatClampNeg) :: r) M else none := r_cnd (by decide +kernel : decode (mB 25) 28 = .ok (.iaload, 1)) rfl rfl
theorem t25_29 : rn 25 29 (a0 :: some (.int x) :: l) r M = rn 25 30 (a0 :: some (.int x) :: l) (.int x :: r) M := r_iload_n (by decide +kernel : decode (mB 25) 29 = .ok (.iload_n 1, 1)) rfl
theorem t25_30 : rn 25 30 ls (.int y :: .int x :: r) M = if ¬ x = y then rn 25 38 ls r M else rn 25 33 ls r M := r_if (o := 8) (r := r) (c := ¬ x = y) (by decide +kernel : decode (mB 25) 30 = .ok (.if_icmp .ne 8, 3)) rfl (by decide) rfl
theorem t25_33 : rn 25 33 (a0 :: a1 :: some (.int x) :: l) r M = rn 25 34 (a0 :: a1 :: some (.int x) :: l) (.int x :: r) M := r_iload_n (by decide +kernel : decode (mB 25) 33 = .ok (.iload_n 2, 1)) rfl
theorem t25_34 : rn 25 34 ls [.int x] M = cbn (cl 24 [.int x] M) 25 37 ls [] := r_callS (kd := 3) (by decide +kernel : decode (mB 25) 34 = .ok (.invokestatic 61, 3)) (by decide +kernel) (by decide +kernel) ((doS_n np_24).trans rfl)
theorem t25_37 : rn 25 37 ls [.long u] M = some (some (.long u), M) := r_lreturn (by decide +kernel : decode (mB 25) 37 = .ok (.lreturn, 1)) rfl
theorem t25_38 : rn 25 38 (a0 :: a1 :: some (.int x) :: l) r M = rn 25 41 (a0 :: a1 :: some (.int (x + (-1))) :: l) r M := r_iinc (by decide +kernel : decode (mB 25) 38 = .ok (.iinc 2 (-1), 3)) rfl
theorem t25_41 : rn 25 41 ls r M = rn 25 7 ls r M := r_goto (o := (-34)) (by decide +kernel : decode (mB 25) 41 = .ok (.goto (-34), 3)) (by decide)
theorem t25_44 : rn 25 44 ls r M = rn 25 45 ls (.long 0 :: r) M := r_nx (by decide +kernel : decode (mB 25) 44 = .ok (.lconst 0, 1)) rfl rfl
theorem t25_45 : rn 25 45 ls [.long u] M = some (some (.long u), M) := r_lreturn (by decide +kernel : decode (mB 25) 45 = .ok (.lreturn, 1)) rfl
-- 26 Log_lean(I)V
theorem t26_0 : rn 26 0 (a0 :: some (.int x) :: l) r M = rn 26 1 (a0 :: some (.int x) :: l) (.int x :: r) M := r_iload_n (by decide +kernel : decode (mB 26) 0 = .ok (.iload_n 1, 1)) rfl
theorem t26_1 : rn 26 1 (a0 :: a1 :: a2 :: l) (.int x :: r) M = rn 26 2 (a0 :: a1 :: some (.int x) :: l) r M := r_istore_n (by decide +kernel : decode (mB 26) 1 = .ok (.istore_n 2, 1)) (Nat.le_add_left 3 l.length)
theorem t26_2 : rn 26 2 (a0 :: a1 :: some (.int x) :: l) r M = rn 26 3 (a0 :: a1 :: some (.int x) :: l) (.int x :: r) M := r_iload_n (by decide +kernel : decode (mB 26) 2 = .ok (.iload_n 2, 1)) rfl
theorem t26_3 : rn 26 3 (some (.ref a) :: l) r M = rn 26 4 (some (.ref a) :: l) (.ref a :: r) M := r_aload_n (by decide +kernel : decode (mB 26) 3 = .ok (.aload_n 0, 1)) rfl
theorem t26_4 : rn 26 4 ls (.ref a :: r) M = if mK M a = (12, 0) then rn 26 7 ls (.int (mI M a 0) :: r) M else none := r_getI (ci := 2) (k := 0) (by decide +kernel : decode (mB 26) 4 = .ok (.getfield 28, 3)) (by decide +kernel) (Or.inl rfl)
theorem t26_7 : rn 26 7 ls (.int y :: .int x :: r) M = if y ≤ x then rn 26 69 ls r M else rn 26 10 ls r M := r_if (o := 62) (r := r) (c := y ≤ x) (by decide +kernel : decode (mB 26) 7 = .ok (.if_icmp .ge 62, 3)) rfl (by decide) rfl
theorem t26_10 : rn 26 10 (some (.ref a) :: l) r M = rn 26 11 (some (.ref a) :: l) (.ref a :: r) M := r_aload_n (by decide +kernel : decode (mB 26) 10 = .ok (.aload_n 0, 1)) rfl
theorem t26_11 : rn 26 11 ls (.ref a :: r) M = if mK M a = (12, 0) then rn 26 14 ls (va_rf (mP M a 5) :: r) M else none := r_getP (ci := 2) (k := 5) (by decide +kernel : decode (mB 26) 11 = .ok (.getfield 21, 3)) (by decide +kernel) rfl
theorem t26_14 : rn 26 14 (a0 :: a1 :: some (.int x) :: l) r M = rn 26 15 (a0 :: a1 :: some (.int x) :: l) (.int x :: r) M := r_iload_n (by decide +kernel : decode (mB 26) 14 = .ok (.iload_n 2, 1)) rfl
theorem t26_15 : rn 26 15 ls (.int x :: .ref a :: r) M = if (mK M a).1 = 2 ∧ inR x (mK M a).2 then rn 26 16 ls (.long (mJ M a x.toNatClampNeg) :: r) M else none := r_cnd (by decide +kernel : decode (mB 26) 15 = .ok (.laload, 1)) rfl rfl
theorem t26_16 : rn 26 16 (a0 :: a1 :: a2 :: a3 :: a4 :: l) (.long u :: r) M = rn 26 17 (a0 :: a1 :: a2 :: some (.long u) :: none :: l) r M := r_lstore_n (by decide +kernel : decode (mB 26) 16 = .ok (.lstore_n 3, 1)) (Nat.le_add_left 5 l.length)
theorem t26_17 : rn 26 17 ls r M = rn 26 18 ls (.int 0 :: r) M := r_nx (by decide +kernel : decode (mB 26) 17 = .ok (.iconst 0, 1)) rfl rfl
theorem t26_18 : rn 26 18 (a0 :: a1 :: a2 :: a3 :: a4 :: a5 :: l) (.int x :: r) M = rn 26 20 (a0 :: a1 :: a2 :: a3 :: a4 :: some (.int x) :: l) r M := r_istore (by decide +kernel : decode (mB 26) 18 = .ok (.istore 5, 2)) (Nat.le_add_left 6 l.length)
theorem t26_20 : rn 26 20 (a0 :: a1 :: a2 :: a3 :: a4 :: some (.int x) :: l) r M = rn 26 22 (a0 :: a1 :: a2 :: a3 :: a4 :: some (.int x) :: l) (.int x :: r) M := r_iload (by decide +kernel : decode (mB 26) 20 = .ok (.iload 5, 2)) rfl
theorem t26_22 : rn 26 22 (a0 :: a1 :: some (.int x) :: l) r M = rn 26 23 (a0 :: a1 :: some (.int x) :: l) (.int x :: r) M := r_iload_n (by decide +kernel : decode (mB 26) 22 = .ok (.iload_n 2, 1)) rfl
theorem t26_23 : rn 26 23 ls (.int y :: .int x :: r) M = if y ≤ x then rn 26 56 ls r M else rn 26 26 ls r M := r_if (o := 33) (r := r) (c := y ≤ x) (by decide +kernel : decode (mB 26) 23 = .ok (.if_icmp .ge 33, 3)) rfl (by decide) rfl
theorem t26_26 : rn 26 26 (some (.ref a) :: l) r M = rn 26 27 (some (.ref a) :: l) (.ref a :: r) M := r_aload_n (by decide +kernel : decode (mB 26) 26 = .ok (.aload_n 0, 1)) rfl
theorem t26_27 : rn 26 27 ls (.ref a :: r) M = if mK M a = (12, 0) then rn 26 30 ls (va_rf (mP M a 5) :: r) M else none := r_getP (ci := 2) (k := 5) (by decide +kernel : decode (mB 26) 27 = .ok (.getfield 21, 3)) (by decide +kernel) rfl
theorem t26_30 : rn 26 30 (a0 :: a1 :: some (.int x) :: l) r M = rn 26 31 (a0 :: a1 :: some (.int x) :: l) (.int x :: r) M := r_iload_n (by decide +kernel : decode (mB 26) 30 = .ok (.iload_n 2, 1)) rfl
theorem t26_31 : rn 26 31 ls (.int x :: .ref a :: r) M = if (mK M a).1 = 2 ∧ inR x (mK M a).2 then rn 26 32 ls (.long (mJ M a x.toNatClampNeg) :: r) M else none := r_cnd (by decide +kernel : decode (mB 26) 31 = .ok (.laload, 1)) rfl rfl
theorem t26_32 : rn 26 32 (a0 :: a1 :: a2 :: a3 :: a4 :: some (.int x) :: l) r M = rn 26 34 (a0 :: a1 :: a2 :: a3 :: a4 :: some (.int x) :: l) (.int x :: r) M := r_iload (by decide +kernel : decode (mB 26) 32 = .ok (.iload 5, 2)) rfl
theorem t26_34 : rn 26 34 ls [.int x, .long u] M = cbn (cl 27 [.long u, .int x] M) 26 37 ls [] := r_callS (kd := 3) (by decide +kernel : decode (mB 26) 34 = .ok (.invokestatic 64, 3)) (by decide +kernel) (by decide +kernel) ((doS_n np_27).trans rfl)
theorem t26_37 : rn 26 37 ls (.int x :: r) M = if x = 0 then rn 26 50 ls r M else rn 26 40 ls r M := r_if (o := 13) (r := r) (c := x = 0) (by decide +kernel : decode (mB 26) 37 = .ok (.ifCond .eq 13, 3)) rfl (by decide) rfl
theorem t26_40 : rn 26 40 (a0 :: a1 :: a2 :: some (.long u) :: none :: l) r M = rn 26 41 (a0 :: a1 :: a2 :: some (.long u) :: none :: l) (.long u :: r) M := r_lload_n (by decide +kernel : decode (mB 26) 40 = .ok (.lload_n 3, 1)) rfl rfl
theorem t26_41 : rn 26 41 (some (.ref a) :: l) r M = rn 26 42 (some (.ref a) :: l) (.ref a :: r) M := r_aload_n (by decide +kernel : decode (mB 26) 41 = .ok (.aload_n 0, 1)) rfl
theorem t26_42 : rn 26 42 ls (.ref a :: r) M = if mK M a = (12, 0) then rn 26 45 ls (va_rf (mP M a 6) :: r) M else none := r_getP (ci := 2) (k := 6) (by decide +kernel : decode (mB 26) 42 = .ok (.getfield 25, 3)) (by decide +kernel) rfl
theorem t26_45 : rn 26 45 (a0 :: a1 :: a2 :: a3 :: a4 :: some (.int x) :: l) r M = rn 26 47 (a0 :: a1 :: a2 :: a3 :: a4 :: some (.int x) :: l) (.int x :: r) M := r_iload (by decide +kernel : decode (mB 26) 45 = .ok (.iload 5, 2)) rfl
theorem t26_47 : rn 26 47 ls (.int x :: .ref a :: r) M = if (mK M a).1 = 2 ∧ inR x (mK M a).2 then rn 26 48 ls (.long (mJ M a x.toNatClampNeg) :: r) M else none := r_cnd (by decide +kernel : decode (mB 26) 47 = .ok (.laload, 1)) rfl rfl
theorem t26_48 : rn 26 48 ls (.long v :: .long u :: r) M = rn 26 49 ls (.long (u ||| v) :: r) M := r_nx (by decide +kernel : decode (mB 26) 48 = .ok (.lor, 1)) rfl rfl
theorem t26_49 : rn 26 49 (a0 :: a1 :: a2 :: a3 :: a4 :: l) (.long u :: r) M = rn 26 50 (a0 :: a1 :: a2 :: some (.long u) :: none :: l) r M := r_lstore_n (by decide +kernel : decode (mB 26) 49 = .ok (.lstore_n 3, 1)) (Nat.le_add_left 5 l.length)
theorem t26_50 : rn 26 50 (a0 :: a1 :: a2 :: a3 :: a4 :: some (.int x) :: l) r M = rn 26 53 (a0 :: a1 :: a2 :: a3 :: a4 :: some (.int (x + 1)) :: l) r M := r_iinc (by decide +kernel : decode (mB 26) 50 = .ok (.iinc 5 1, 3)) rfl
theorem t26_53 : rn 26 53 ls r M = rn 26 20 ls r M := r_goto (o := (-33)) (by decide +kernel : decode (mB 26) 53 = .ok (.goto (-33), 3)) (by decide)
theorem t26_56 : rn 26 56 (some (.ref a) :: l) r M = rn 26 57 (some (.ref a) :: l) (.ref a :: r) M := r_aload_n (by decide +kernel : decode (mB 26) 56 = .ok (.aload_n 0, 1)) rfl
theorem t26_57 : rn 26 57 ls (.ref a :: r) M = if mK M a = (12, 0) then rn 26 60 ls (va_rf (mP M a 6) :: r) M else none := r_getP (ci := 2) (k := 6) (by decide +kernel : decode (mB 26) 57 = .ok (.getfield 25, 3)) (by decide +kernel) rfl
theorem t26_60 : rn 26 60 (a0 :: a1 :: some (.int x) :: l) r M = rn 26 61 (a0 :: a1 :: some (.int x) :: l) (.int x :: r) M := r_iload_n (by decide +kernel : decode (mB 26) 60 = .ok (.iload_n 2, 1)) rfl
theorem t26_61 : rn 26 61 (a0 :: a1 :: a2 :: some (.long u) :: none :: l) r M = rn 26 62 (a0 :: a1 :: a2 :: some (.long u) :: none :: l) (.long u :: r) M := r_lload_n (by decide +kernel : decode (mB 26) 61 = .ok (.lload_n 3, 1)) rfl rfl
theorem t26_62 : rn 26 62 ls (.long u :: .int x :: .ref a :: r) M = if (mK M a).1 = 2 ∧ inR x (mK M a).2 then rn 26 63 ls r (sJ M a (va_up (mJ M a) x.toNatClampNeg u)) else none := r_cnd (by decide +kernel : decode (mB 26) 62 = .ok (.lastore, 1)) rfl rfl
theorem t26_63 : rn 26 63 (a0 :: a1 :: some (.int x) :: l) r M = rn 26 66 (a0 :: a1 :: some (.int (x + 1)) :: l) r M := r_iinc (by decide +kernel : decode (mB 26) 63 = .ok (.iinc 2 1, 3)) rfl
theorem t26_66 : rn 26 66 ls r M = rn 26 2 ls r M := r_goto (o := (-64)) (by decide +kernel : decode (mB 26) 66 = .ok (.goto (-64), 3)) (by decide)
theorem t26_69 : rn 26 69 ls [] M = some (none, M) := r_vreturn (by decide +kernel : decode (mB 26) 69 = .ok (.return_, 1)) rfl
-- 29 History_keepPrepared()V
theorem t29_0 : rn 29 0 (some (.ref a) :: l) r M = rn 29 1 (some (.ref a) :: l) (.ref a :: r) M := r_aload_n (by decide +kernel : decode (mB 29) 0 = .ok (.aload_n 0, 1)) rfl
theorem t29_1 : rn 29 1 (some (.ref a) :: l) r M = rn 29 2 (some (.ref a) :: l) (.ref a :: r) M := r_aload_n (by decide +kernel : decode (mB 29) 1 = .ok (.aload_n 0, 1)) rfl
theorem t29_2 : rn 29 2 ls (.ref a :: r) M = if mK M a = (15, 0) then rn 29 5 ls (.int (mI M a 1) :: r) M else none := r_getI (ci := 5) (k := 1) (by decide +kernel : decode (mB 29) 2 = .ok (.getfield 18, 3)) (by decide +kernel) (Or.inl rfl)
theorem t29_5 : rn 29 5 ls r M = rn 29 7 ls (.int 6 :: r) M := r_nx (by decide +kernel : decode (mB 29) 5 = .ok (.bipush 6, 2)) rfl rfl
theorem t29_7 : rn 29 7 ls (.int y :: .int x :: r) M = if ¬ x = y then rn 29 14 ls r M else rn 29 10 ls r M := r_if (o := 7) (r := r) (c := ¬ x = y) (by decide +kernel : decode (mB 29) 7 = .ok (.if_icmp .ne 7, 3)) rfl (by decide) rfl
theorem t29_10 : rn 29 10 ls r M = rn 29 11 ls (.int 0 :: r) M := r_nx (by decide +kernel : decode (mB 29) 10 = .ok (.iconst 0, 1)) rfl rfl
theorem t29_11 : rn 29 11 ls r M = rn 29 20 ls r M := r_goto (o := 9) (by decide +kernel : decode (mB 29) 11 = .ok (.goto 9, 3)) (by decide)
theorem t29_14 : rn 29 14 (some (.ref a) :: l) r M = rn 29 15 (some (.ref a) :: l) (.ref a :: r) M := r_aload_n (by decide +kernel : decode (mB 29) 14 = .ok (.aload_n 0, 1)) rfl
theorem t29_15 : rn 29 15 ls (.ref a :: r) M = if mK M a = (15, 0) then rn 29 18 ls (.int (mI M a 1) :: r) M else none := r_getI (ci := 5) (k := 1) (by decide +kernel : decode (mB 29) 15 = .ok (.getfield 18, 3)) (by decide +kernel) (Or.inl rfl)
theorem t29_18 : rn 29 18 ls r M = rn 29 19 ls (.int 1 :: r) M := r_nx (by decide +kernel : decode (mB 29) 18 = .ok (.iconst 1, 1)) rfl rfl
theorem t29_19 : rn 29 19 ls (.int y :: .int x :: r) M = rn 29 20 ls (.int (x + y) :: r) M := r_nx (by decide +kernel : decode (mB 29) 19 = .ok (.iadd, 1)) rfl rfl
theorem t29_20 : rn 29 20 ls (.int x :: .ref a :: r) M = if mK M a = (15, 0) then rn 29 23 ls r (sI M a (va_up (mI M a) 1 x)) else none := r_putI (ci := 5) (k := 1) (by decide +kernel : decode (mB 29) 20 = .ok (.putfield 18, 3)) (by decide +kernel) rfl rfl
theorem t29_23 : rn 29 23 (some (.ref a) :: l) r M = rn 29 24 (some (.ref a) :: l) (.ref a :: r) M := r_aload_n (by decide +kernel : decode (mB 29) 23 = .ok (.aload_n 0, 1)) rfl
theorem t29_24 : rn 29 24 (some (.ref a) :: l) r M = rn 29 25 (some (.ref a) :: l) (.ref a :: r) M := r_aload_n (by decide +kernel : decode (mB 29) 24 = .ok (.aload_n 0, 1)) rfl
theorem t29_25 : rn 29 25 ls (.ref a :: r) M = if mK M a = (15, 0) then rn 29 28 ls (.int (mI M a 2) :: r) M else none := r_getI (ci := 5) (k := 2) (by decide +kernel : decode (mB 29) 25 = .ok (.getfield 26, 3)) (by decide +kernel) (Or.inl rfl)
theorem t29_28 : rn 29 28 ls r M = rn 29 29 ls (.int 1 :: r) M := r_nx (by decide +kernel : decode (mB 29) 28 = .ok (.iconst 1, 1)) rfl rfl
theorem t29_29 : rn 29 29 ls (.int y :: .int x :: r) M = rn 29 30 ls (.int (x + y) :: r) M := r_nx (by decide +kernel : decode (mB 29) 29 = .ok (.iadd, 1)) rfl rfl
theorem t29_30 : rn 29 30 ls r M = rn 29 32 ls (.int 6 :: r) M := r_nx (by decide +kernel : decode (mB 29) 30 = .ok (.bipush 6, 2)) rfl rfl
theorem t29_32 : rn 29 32 ls [.int x, .int y, .ref a] M = cbn (cl 30 [.int y, .int x] M) 29 35 ls [.ref a] := r_callS (kd := 2) (by decide +kernel : decode (mB 29) 32 = .ok (.invokestatic 29, 3)) (by decide +kernel) (by decide +kernel) ((doS_n np_30).trans rfl)
theorem t29_35 : rn 29 35 ls (.int x :: .ref a :: r) M = if mK M a = (15, 0) then rn 29 38 ls r (sI M a (va_up (mI M a) 2 x)) else none := r_putI (ci := 5) (k := 2) (by decide +kernel : decode (mB 29) 35 = .ok (.putfield 26, 3)) (by decide +kernel) rfl rfl
theorem t29_38 : rn 29 38 ls [] M = some (none, M) := r_vreturn (by decide +kernel : decode (mB 29) 38 = .ok (.return_, 1)) rfl
-- 35 State_tellNeed(II)I
theorem t35_0 : rn 35 0 (some (.ref a) :: l) r M = rn 35 1 (some (.ref a) :: l) (.ref a :: r) M := r_aload_n (by decide +kernel : decode (mB 35) 0 = .ok (.aload_n 0, 1)) rfl
theorem t35_1 : rn 35 1 ls (.ref a :: r) M = if mK M a = (11, 0) then rn 35 4 ls (va_rf (mP M a 0) :: r) M else none := r_getP (ci := 1) (k := 0) (by decide +kernel : decode (mB 35) 1 = .ok (.getfield 12, 3)) (by decide +kernel) rfl
theorem t35_4 : rn 35 4 (a0 :: some (.int x) :: l) r M = rn 35 5 (a0 :: some (.int x) :: l) (.int x :: r) M := r_iload_n (by decide +kernel : decode (mB 35) 4 = .ok (.iload_n 1, 1)) rfl
theorem t35_5 : rn 35 5 ls [.int x, .ref a] M = if mK M a = (12, 0) then cbn (cl 36 [.ref a, .int x] M) 35 8 ls [] else none := r_callV (kd := 0) (by decide +kernel : decode (mB 35) 5 = .ok (.invokevirtual 43, 3)) (by decide +kernel) ((doV_n np_36).trans rfl)
theorem t35_8 : rn 35 8 ls (.int x :: r) M = if x = 0 then rn 35 22 ls r M else rn 35 11 ls r M := r_if (o := 14) (r := r) (c := x = 0) (by decide +kernel : decode (mB 35) 8 = .ok (.ifCond .eq 14, 3)) rfl (by decide) rfl
theorem t35_11 : rn 35 11 (some (.ref a) :: l) r M = rn 35 12 (some (.ref a) :: l) (.ref a :: r) M := r_aload_n (by decide +kernel : decode (mB 35) 11 = .ok (.aload_n 0, 1)) rfl
theorem t35_12 : rn 35 12 ls (.ref a :: r) M = if mK M a = (11, 0) then rn 35 15 ls (va_rf (mP M a 0) :: r) M else none := r_getP (ci := 1) (k := 0) (by decide +kernel : decode (mB 35) 12 = .ok (.getfield 12, 3)) (by decide +kernel) rfl
theorem t35_15 : rn 35 15 (a0 :: a1 :: some (.int x) :: l) r M = rn 35 16 (a0 :: a1 :: some (.int x) :: l) (.int x :: r) M := r_iload_n (by decide +kernel : decode (mB 35) 15 = .ok (.iload_n 2, 1)) rfl
theorem t35_16 : rn 35 16 ls [.int x, .ref a] M = if mK M a = (12, 0) then cbn (cl 36 [.ref a, .int x] M) 35 19 ls [] else none := r_callV (kd := 0) (by decide +kernel : decode (mB 35) 16 = .ok (.invokevirtual 43, 3)) (by decide +kernel) ((doV_n np_36).trans rfl)
theorem t35_19 : rn 35 19 ls (.int x :: r) M = if ¬ x = 0 then rn 35 24 ls r M else rn 35 22 ls r M := r_if (o := 5) (r := r) (c := ¬ x = 0) (by decide +kernel : decode (mB 35) 19 = .ok (.ifCond .ne 5, 3)) rfl (by decide) rfl
theorem t35_22 : rn 35 22 ls r M = rn 35 23 ls (.int (-1) :: r) M := r_nx (by decide +kernel : decode (mB 35) 22 = .ok (.iconst (-1), 1)) rfl rfl
theorem t35_23 : rn 35 23 ls [.int x] M = some (some (.int x), M) := r_ireturn (by decide +kernel : decode (mB 35) 23 = .ok (.ireturn, 1)) rfl
theorem t35_24 : rn 35 24 (a0 :: a1 :: some (.int x) :: l) r M = rn 35 25 (a0 :: a1 :: some (.int x) :: l) (.int x :: r) M := r_iload_n (by decide +kernel : decode (mB 35) 24 = .ok (.iload_n 2, 1)) rfl
theorem t35_25 : rn 35 25 (a0 :: some (.int x) :: l) r M = rn 35 26 (a0 :: some (.int x) :: l) (.int x :: r) M := r_iload_n (by decide +kernel : decode (mB 35) 25 = .ok (.iload_n 1, 1)) rfl
theorem t35_26 : rn 35 26 ls (.int y :: .int x :: r) M = if x < y then rn 35 32 ls r M else rn 35 29 ls r M := r_if (o := 6) (r := r) (c := x < y) (by decide +kernel : decode (mB 35) 26 = .ok (.if_icmp .lt 6, 3)) rfl (by decide) rfl
theorem t35_29 : rn 35 29 ls r M = rn 35 31 ls (.int (-5) :: r) M := r_nx (by decide +kernel : decode (mB 35) 29 = .ok (.bipush (-5), 2)) rfl rfl
theorem t35_31 : rn 35 31 ls [.int x] M = some (some (.int x), M) := r_ireturn (by decide +kernel : decode (mB 35) 31 = .ok (.ireturn, 1)) rfl
theorem t35_32 : rn 35 32 (some (.ref a) :: l) r M = rn 35 33 (some (.ref a) :: l) (.ref a :: r) M := r_aload_n (by decide +kernel : decode (mB 35) 32 = .ok (.aload_n 0, 1)) rfl
theorem t35_33 : rn 35 33 ls (.ref a :: r) M = if mK M a = (11, 0) then rn 35 36 ls (va_rf (mP M a 0) :: r) M else none := r_getP (ci := 1) (k := 0) (by decide +kernel : decode (mB 35) 33 = .ok (.getfield 12, 3)) (by decide +kernel) rfl
theorem t35_36 : rn 35 36 ls (.ref a :: r) M = if mK M a = (12, 0) then rn 35 39 ls (va_rf (mP M a 5) :: r) M else none := r_getP (ci := 2) (k := 5) (by decide +kernel : decode (mB 35) 36 = .ok (.getfield 46, 3)) (by decide +kernel) rfl
theorem t35_39 : rn 35 39 (a0 :: some (.int x) :: l) r M = rn 35 40 (a0 :: some (.int x) :: l) (.int x :: r) M := r_iload_n (by decide +kernel : decode (mB 35) 39 = .ok (.iload_n 1, 1)) rfl
theorem t35_40 : rn 35 40 ls (.int x :: .ref a :: r) M = rn 35 41 ls (.int x :: .ref a :: .int x :: .ref a :: r) M := r_nx (by decide +kernel : decode (mB 35) 40 = .ok (.dup2, 1)) rfl rfl
theorem t35_41 : rn 35 41 ls (.int x :: .ref a :: r) M = if (mK M a).1 = 2 ∧ inR x (mK M a).2 then rn 35 42 ls (.long (mJ M a x.toNatClampNeg) :: r) M else none := r_cnd (by decide +kernel : decode (mB 35) 41 = .ok (.laload, 1)) rfl rfl
theorem t35_42 : rn 35 42 (a0 :: a1 :: some (.int x) :: l) r M = rn 35 43 (a0 :: a1 :: some (.int x) :: l) (.int x :: r) M := r_iload_n (by decide +kernel : decode (mB 35) 42 = .ok (.iload_n 2, 1)) rfl
theorem t35_43 : rn 35 43 ls [.int x, .long u, .int y, .ref a] M = cbn (cl 24 [.int x] M) 35 46 ls [.long u, .int y, .ref a] := r_callS (kd := 3) (by decide +kernel : decode (mB 35) 43 = .ok (.invokestatic 50, 3)) (by decide +kernel) (by decide +kernel) ((doS_n np_24).trans rfl)
theorem t35_46 : rn 35 46 ls (.long v :: .long u :: r) M = rn 35 47 ls (.long (u ||| v) :: r) M := r_nx (by decide +kernel : decode (mB 35) 46 = .ok (.lor, 1)) rfl rfl
theorem t35_47 : rn 35 47 ls (.long u :: .int x :: .ref a :: r) M = if (mK M a).1 = 2 ∧ inR x (mK M a).2 then rn 35 48 ls r (sJ M a (va_up (mJ M a) x.toNatClampNeg u)) else none := r_cnd (by decide +kernel : decode (mB 35) 47 = .ok (.lastore, 1)) rfl rfl
theorem t35_48 : rn 35 48 (some (.ref a) :: l) r M = rn 35 49 (some (.ref a) :: l) (.ref a :: r) M := r_aload_n (by decide +kernel : decode (mB 35) 48 = .ok (.aload_n 0, 1)) rfl
theorem t35_49 : rn 35 49 ls (.ref a :: r) M = if mK M a = (11, 0) then rn 35 52 ls (va_rf (mP M a 0) :: r) M else none := r_getP (ci := 1) (k := 0) (by decide +kernel : decode (mB 35) 49 = .ok (.getfield 12, 3)) (by decide +kernel) rfl
theorem t35_52 : rn 35 52 (a0 :: some (.int x) :: l) r M = rn 35 53 (a0 :: some (.int x) :: l) (.int x :: r) M := r_iload_n (by decide +kernel : decode (mB 35) 52 = .ok (.iload_n 1, 1)) rfl
theorem t35_53 : rn 35 53 ls [.int x, .ref a] M = if mK M a = (12, 0) then cbn (cl 26 [.ref a, .int x] M) 35 56 ls [] else none := r_callV (kd := 0) (by decide +kernel : decode (mB 35) 53 = .ok (.invokevirtual 54, 3)) (by decide +kernel) ((doV_n np_26).trans rfl)
theorem t35_56 : rn 35 56 (some (.ref a) :: l) r M = rn 35 57 (some (.ref a) :: l) (.ref a :: r) M := r_aload_n (by decide +kernel : decode (mB 35) 56 = .ok (.aload_n 0, 1)) rfl
theorem t35_57 : rn 35 57 ls (.ref a :: r) M = if mK M a = (11, 0) then rn 35 60 ls (va_rf (mP M a 1) :: r) M else none := r_getP (ci := 1) (k := 1) (by decide +kernel : decode (mB 35) 57 = .ok (.getfield 21, 3)) (by decide +kernel) rfl
theorem t35_60 : rn 35 60 ls [.ref a] M = if mK M a = (13, 0) then cbn (cl 7 [.ref a] M) 35 63 ls [] else none := r_callV (kd := 0) (by decide +kernel : decode (mB 35) 60 = .ok (.invokevirtual 58, 3)) (by decide +kernel) ((doV_n np_7).trans rfl)
theorem t35_63 : rn 35 63 (some (.ref a) :: l) r M = rn 35 64 (some (.ref a) :: l) (.ref a :: r) M := r_aload_n (by decide +kernel : decode (mB 35) 63 = .ok (.aload_n 0, 1)) rfl
theorem t35_64 : rn 35 64 ls (.ref a :: r) M = if mK M a = (11, 0) then rn 35 67 ls (va_rf (mP M a 0) :: r) M else none := r_getP (ci := 1) (k := 0) (by decide +kernel : decode (mB 35) 64 = .ok (.getfield 12, 3)) (by decide +kernel) rfl
theorem t35_67 : rn 35 67 ls (.ref a :: r) M = if mK M a = (12, 0) then rn 35 70 ls (va_rf (mP M a 5) :: r) M else none := r_getP (ci := 2) (k := 5) (by decide +kernel : decode (mB 35) 67 = .ok (.getfield 46, 3)) (by decide +kernel) rfl
theorem t35_70 : rn 35 70 (a0 :: some (.int x) :: l) r M = rn 35 71 (a0 :: some (.int x) :: l) (.int x :: r) M := r_iload_n (by decide +kernel : decode (mB 35) 70 = .ok (.iload_n 1, 1)) rfl
theorem t35_71 : rn 35 71 ls (.int x :: .ref a :: r) M = if (mK M a).1 = 2 ∧ inR x (mK M a).2 then rn 35 72 ls (.long (mJ M a x.toNatClampNeg) :: r) M else none := r_cnd (by decide +kernel : decode (mB 35) 71 = .ok (.laload, 1)) rfl rfl
theorem t35_72 : rn 35 72 ls [.long u] M = cbn (cl 37 [.long u] M) 35 75 ls [] := r_callS (kd := 2) (by decide +kernel : decode (mB 35) 72 = .ok (.invokestatic 61, 3)) (by decide +kernel) (by decide +kernel) ((doS_n np_37).trans rfl)
theorem t35_75 : rn 35 75 ls [.int x] M = some (some (.int x), M) := r_ireturn (by decide +kernel : decode (mB 35) 75 = .ok (.ireturn, 1)) rfl
-- 36 Log_has(I)Z
theorem t36_0 : rn 36 0 (a0 :: some (.int x) :: l) r M = rn 36 1 (a0 :: some (.int x) :: l) (.int x :: r) M := r_iload_n (by decide +kernel : decode (mB 36) 0 = .ok (.iload_n 1, 1)) rfl
theorem t36_1 : rn 36 1 ls (.int x :: r) M = if x < 0 then rn 36 16 ls r M else rn 36 4 ls r M := r_if (o := 15) (r := r) (c := x < 0) (by decide +kernel : decode (mB 36) 1 = .ok (.ifCond .lt 15, 3)) rfl (by decide) rfl
theorem t36_4 : rn 36 4 (a0 :: some (.int x) :: l) r M = rn 36 5 (a0 :: some (.int x) :: l) (.int x :: r) M := r_iload_n (by decide +kernel : decode (mB 36) 4 = .ok (.iload_n 1, 1)) rfl
theorem t36_5 : rn 36 5 (some (.ref a) :: l) r M = rn 36 6 (some (.ref a) :: l) (.ref a :: r) M := r_aload_n (by decide +kernel : decode (mB 36) 5 = .ok (.aload_n 0, 1)) rfl
theorem t36_6 : rn 36 6 ls (.ref a :: r) M = if mK M a = (12, 0) then rn 36 9 ls (.int (mI M a 0) :: r) M else none := r_getI (ci := 2) (k := 0) (by decide +kernel : decode (mB 36) 6 = .ok (.getfield 28, 3)) (by decide +kernel) (Or.inl rfl)
theorem t36_9 : rn 36 9 ls (.int y :: .int x :: r) M = if y ≤ x then rn 36 16 ls r M else rn 36 12 ls r M := r_if (o := 7) (r := r) (c := y ≤ x) (by decide +kernel : decode (mB 36) 9 = .ok (.if_icmp .ge 7, 3)) rfl (by decide) rfl
theorem t36_12 : rn 36 12 ls r M = rn 36 13 ls (.int 1 :: r) M := r_nx (by decide +kernel : decode (mB 36) 12 = .ok (.iconst 1, 1)) rfl rfl
theorem t36_13 : rn 36 13 ls r M = rn 36 17 ls r M := r_goto (o := 4) (by decide +kernel : decode (mB 36) 13 = .ok (.goto 4, 3)) (by decide)
theorem t36_16 : rn 36 16 ls r M = rn 36 17 ls (.int 0 :: r) M := r_nx (by decide +kernel : decode (mB 36) 16 = .ok (.iconst 0, 1)) rfl rfl
theorem t36_17 : rn 36 17 ls [.int x] M = if x = 0 ∨ x = 1 then some (some (.int x), M) else none := r_zreturn (by decide +kernel : decode (mB 36) 17 = .ok (.ireturn, 1)) rfl
-- 39 State_loseEntry(I)I
theorem t39_0 : rn 39 0 (some (.ref a) :: l) r M = rn 39 1 (some (.ref a) :: l) (.ref a :: r) M := r_aload_n (by decide +kernel : decode (mB 39) 0 = .ok (.aload_n 0, 1)) rfl
theorem t39_1 : rn 39 1 (a0 :: some (.int x) :: l) r M = rn 39 2 (a0 :: some (.int x) :: l) (.int x :: r) M := r_iload_n (by decide +kernel : decode (mB 39) 1 = .ok (.iload_n 1, 1)) rfl
theorem t39_2 : rn 39 2 ls r M = rn 39 3 ls (.int 0 :: r) M := r_nx (by decide +kernel : decode (mB 39) 2 = .ok (.iconst 0, 1)) rfl rfl
theorem t39_3 : rn 39 3 ls [.int x, .int y, .ref a] M = if mK M a = (11, 0) then cbn (cl 40 [.ref a, .int y, .int x] M) 39 6 ls [] else none := r_callV (kd := 0) (by decide +kernel : decode (mB 39) 3 = .ok (.invokevirtual 67, 3)) (by decide +kernel) ((doV_n np_40).trans rfl)
theorem t39_6 : rn 39 6 ls [.int x] M = some (some (.int x), M) := r_ireturn (by decide +kernel : decode (mB 39) 6 = .ok (.ireturn, 1)) rfl
-- 40 State_turnLost(IZ)I
theorem t40_0 : rn 40 0 (some (.ref a) :: l) r M = rn 40 1 (some (.ref a) :: l) (.ref a :: r) M := r_aload_n (by decide +kernel : decode (mB 40) 0 = .ok (.aload_n 0, 1)) rfl
theorem t40_1 : rn 40 1 ls (.ref a :: r) M = if mK M a = (11, 0) then rn 40 4 ls (va_rf (mP M a 0) :: r) M else none := r_getP (ci := 1) (k := 0) (by decide +kernel : decode (mB 40) 1 = .ok (.getfield 12, 3)) (by decide +kernel) rfl
theorem t40_4 : rn 40 4 (a0 :: some (.int x) :: l) r M = rn 40 5 (a0 :: some (.int x) :: l) (.int x :: r) M := r_iload_n (by decide +kernel : decode (mB 40) 4 = .ok (.iload_n 1, 1)) rfl
theorem t40_5 : rn 40 5 ls [.int x, .ref a] M = if mK M a = (12, 0) then cbn (cl 36 [.ref a, .int x] M) 40 8 ls [] else none := r_callV (kd := 0) (by decide +kernel : decode (mB 40) 5 = .ok (.invokevirtual 43, 3)) (by decide +kernel) ((doV_n np_36).trans rfl)
theorem t40_8 : rn 40 8 ls (.int x :: r) M = if ¬ x = 0 then rn 40 13 ls r M else rn 40 11 ls r M := r_if (o := 5) (r := r) (c := ¬ x = 0) (by decide +kernel : decode (mB 40) 8 = .ok (.ifCond .ne 5, 3)) rfl (by decide) rfl
theorem t40_11 : rn 40 11 ls r M = rn 40 12 ls (.int (-1) :: r) M := r_nx (by decide +kernel : decode (mB 40) 11 = .ok (.iconst (-1), 1)) rfl rfl
theorem t40_12 : rn 40 12 ls [.int x] M = some (some (.int x), M) := r_ireturn (by decide +kernel : decode (mB 40) 12 = .ok (.ireturn, 1)) rfl
theorem t40_13 : rn 40 13 (some (.ref a) :: l) r M = rn 40 14 (some (.ref a) :: l) (.ref a :: r) M := r_aload_n (by decide +kernel : decode (mB 40) 13 = .ok (.aload_n 0, 1)) rfl
theorem t40_14 : rn 40 14 ls (.ref a :: r) M = if mK M a = (11, 0) then rn 40 17 ls (va_rf (mP M a 0) :: r) M else none := r_getP (ci := 1) (k := 0) (by decide +kernel : decode (mB 40) 14 = .ok (.getfield 12, 3)) (by decide +kernel) rfl
theorem t40_17 : rn 40 17 ls (.ref a :: r) M = if mK M a = (12, 0) then rn 40 20 ls (.long (mJ M a 1) :: r) M else none := r_getJ (ci := 2) (k := 1) (by decide +kernel : decode (mB 40) 17 = .ok (.getfield 71, 3)) (by decide +kernel) rfl
theorem t40_20 : rn 40 20 (a0 :: some (.int x) :: l) r M = rn 40 21 (a0 :: some (.int x) :: l) (.int x :: r) M := r_iload_n (by decide +kernel : decode (mB 40) 20 = .ok (.iload_n 1, 1)) rfl
theorem t40_21 : rn 40 21 ls [.int x, .long u] M = cbn (cl 27 [.long u, .int x] M) 40 24 ls [] := r_callS (kd := 3) (by decide +kernel : decode (mB 40) 21 = .ok (.invokestatic 75, 3)) (by decide +kernel) (by decide +kernel) ((doS_n np_27).trans rfl)
theorem t40_24 : rn 40 24 (a0 :: a1 :: some (.int x) :: l) r M = rn 40 25 (a0 :: a1 :: some (.int x) :: l) (.int x :: r) M := r_iload_n (by decide +kernel : decode (mB 40) 24 = .ok (.iload_n 2, 1)) rfl
theorem t40_25 : rn 40 25 ls (.int y :: .int x :: r) M = if x = y then rn 40 31 ls r M else rn 40 28 ls r M := r_if (o := 6) (r := r) (c := x = y) (by decide +kernel : decode (mB 40) 25 = .ok (.if_icmp .eq 6, 3)) rfl (by decide) rfl
theorem t40_28 : rn 40 28 ls r M = rn 40 30 ls (.int (-5) :: r) M := r_nx (by decide +kernel : decode (mB 40) 28 = .ok (.bipush (-5), 2)) rfl rfl
theorem t40_30 : rn 40 30 ls [.int x] M = some (some (.int x), M) := r_ireturn (by decide +kernel : decode (mB 40) 30 = .ok (.ireturn, 1)) rfl
theorem t40_31 : rn 40 31 (some (.ref a) :: l) r M = rn 40 32 (some (.ref a) :: l) (.ref a :: r) M := r_aload_n (by decide +kernel : decode (mB 40) 31 = .ok (.aload_n 0, 1)) rfl
theorem t40_32 : rn 40 32 ls (.ref a :: r) M = if mK M a = (11, 0) then rn 40 35 ls (va_rf (mP M a 0) :: r) M else none := r_getP (ci := 1) (k := 0) (by decide +kernel : decode (mB 40) 32 = .ok (.getfield 12, 3)) (by decide +kernel) rfl
theorem t40_35 : rn 40 35 ls (.ref a :: r) M = rn 40 36 ls (.ref a :: .ref a :: r) M := r_nx (by decide +kernel : decode (mB 40) 35 = .ok (.dup, 1)) rfl rfl
theorem t40_36 : rn 40 36 ls (.ref a :: r) M = if mK M a = (12, 0) then rn 40 39 ls (.long (mJ M a 1) :: r) M else none := r_getJ (ci := 2) (k := 1) (by decide +kernel : decode (mB 40) 36 = .ok (.getfield 71, 3)) (by decide +kernel) rfl
theorem t40_39 : rn 40 39 (a0 :: some (.int x) :: l) r M = rn 40 40 (a0 :: some (.int x) :: l) (.int x :: r) M := r_iload_n (by decide +kernel : decode (mB 40) 39 = .ok (.iload_n 1, 1)) rfl
theorem t40_40 : rn 40 40 ls [.int x, .long u, .ref a] M = cbn (cl 24 [.int x] M) 40 43 ls [.long u, .ref a] := r_callS (kd := 3) (by decide +kernel : decode (mB 40) 40 = .ok (.invokestatic 50, 3)) (by decide +kernel) (by decide +kernel) ((doS_n np_24).trans rfl)
theorem t40_43 : rn 40 43 ls (.long v :: .long u :: r) M = rn 40 44 ls (.long (u ^^^ v) :: r) M := r_nx (by decide +kernel : decode (mB 40) 43 = .ok (.lxor, 1)) rfl rfl
theorem t40_44 : rn 40 44 ls (.long u :: .ref a :: r) M = if mK M a = (12, 0) then rn 40 47 ls r (sJ M a (va_up (mJ M a) 1 u)) else none := r_putJ (ci := 2) (k := 1) (by decide +kernel : decode (mB 40) 44 = .ok (.putfield 71, 3)) (by decide +kernel) rfl rfl
theorem t40_47 : rn 40 47 (some (.ref a) :: l) r M = rn 40 48 (some (.ref a) :: l) (.ref a :: r) M := r_aload_n (by decide +kernel : decode (mB 40) 47 = .ok (.aload_n 0, 1)) rfl
theorem t40_48 : rn 40 48 ls (.ref a :: r) M = if mK M a = (11, 0) then rn 40 51 ls (va_rf (mP M a 1) :: r) M else none := r_getP (ci := 1) (k := 1) (by decide +kernel : decode (mB 40) 48 = .ok (.getfield 21, 3)) (by decide +kernel) rfl
theorem t40_51 : rn 40 51 ls [.ref a] M = if mK M a = (13, 0) then cbn (cl 7 [.ref a] M) 40 54 ls [] else none := r_callV (kd := 0) (by decide +kernel : decode (mB 40) 51 = .ok (.invokevirtual 58, 3)) (by decide +kernel) ((doV_n np_7).trans rfl)
theorem t40_54 : rn 40 54 (some (.ref a) :: l) r M = rn 40 55 (some (.ref a) :: l) (.ref a :: r) M := r_aload_n (by decide +kernel : decode (mB 40) 54 = .ok (.aload_n 0, 1)) rfl
theorem t40_55 : rn 40 55 ls (.ref a :: r) M = if mK M a = (11, 0) then rn 40 58 ls (va_rf (mP M a 0) :: r) M else none := r_getP (ci := 1) (k := 0) (by decide +kernel : decode (mB 40) 55 = .ok (.getfield 12, 3)) (by decide +kernel) rfl
theorem t40_58 : rn 40 58 ls [.ref a] M = if mK M a = (12, 0) then cbn (cl 41 [.ref a] M) 40 61 ls [] else none := r_callV (kd := 0) (by decide +kernel : decode (mB 40) 58 = .ok (.invokevirtual 79, 3)) (by decide +kernel) ((doV_n np_41).trans rfl)
theorem t40_61 : rn 40 61 ls [.long u] M = cbn (cl 37 [.long u] M) 40 64 ls [] := r_callS (kd := 2) (by decide +kernel : decode (mB 40) 61 = .ok (.invokestatic 61, 3)) (by decide +kernel) (by decide +kernel) ((doS_n np_37).trans rfl)
theorem t40_64 : rn 40 64 ls [.int x] M = some (some (.int x), M) := r_ireturn (by decide +kernel : decode (mB 40) 64 = .ok (.ireturn, 1)) rfl
-- 41 Log_orphans()J
theorem t41_0 : rn 41 0 (some (.ref a) :: l) r M = rn 41 1 (some (.ref a) :: l) (.ref a :: r) M := r_aload_n (by decide +kernel : decode (mB 41) 0 = .ok (.aload_n 0, 1)) rfl
theorem t41_1 : rn 41 1 (some (.ref a) :: l) r M = rn 41 2 (some (.ref a) :: l) (.ref a :: r) M := r_aload_n (by decide +kernel : decode (mB 41) 1 = .ok (.aload_n 0, 1)) rfl
theorem t41_2 : rn 41 2 ls (.ref a :: r) M = if mK M a = (12, 0) then rn 41 5 ls (.long (mJ M a 1) :: r) M else none := r_getJ (ci := 2) (k := 1) (by decide +kernel : decode (mB 41) 2 = .ok (.getfield 32, 3)) (by decide +kernel) rfl
theorem t41_5 : rn 41 5 ls [.long u, .ref a] M = if mK M a = (12, 0) then cbn (cl 42 [.ref a, .long u] M) 41 8 ls [] else none := r_callV (kd := 0) (by decide +kernel : decode (mB 41) 5 = .ok (.invokevirtual 68, 3)) (by decide +kernel) ((doV_n np_42).trans rfl)
theorem t41_8 : rn 41 8 ls [.long u] M = some (some (.long u), M) := r_lreturn (by decide +kernel : decode (mB 41) 8 = .ok (.lreturn, 1)) rfl
-- 42 Log_orphansOf(J)J
theorem t42_0 : rn 42 0 ls r M = rn 42 1 ls (.long 0 :: r) M := r_nx (by decide +kernel : decode (mB 42) 0 = .ok (.lconst 0, 1)) rfl rfl
theorem t42_1 : rn 42 1 (a0 :: a1 :: a2 :: a3 :: a4 :: l) (.long u :: r) M = rn 42 2 (a0 :: a1 :: a2 :: some (.long u) :: none :: l) r M := r_lstore_n (by decide +kernel : decode (mB 42) 1 = .ok (.lstore_n 3, 1)) (Nat.le_add_left 5 l.length)
theorem t42_2 : rn 42 2 ls r M = rn 42 3 ls (.int 0 :: r) M := r_nx (by decide +kernel : decode (mB 42) 2 = .ok (.iconst 0, 1)) rfl rfl
theorem t42_3 : rn 42 3 (a0 :: a1 :: a2 :: a3 :: a4 :: a5 :: l) (.int x :: r) M = rn 42 5 (a0 :: a1 :: a2 :: a3 :: a4 :: some (.int x) :: l) r M := r_istore (by decide +kernel : decode (mB 42) 3 = .ok (.istore 5, 2)) (Nat.le_add_left 6 l.length)
theorem t42_5 : rn 42 5 (a0 :: a1 :: a2 :: a3 :: a4 :: some (.int x) :: l) r M = rn 42 7 (a0 :: a1 :: a2 :: a3 :: a4 :: some (.int x) :: l) (.int x :: r) M := r_iload (by decide +kernel : decode (mB 42) 5 = .ok (.iload 5, 2)) rfl
theorem t42_7 : rn 42 7 (some (.ref a) :: l) r M = rn 42 8 (some (.ref a) :: l) (.ref a :: r) M := r_aload_n (by decide +kernel : decode (mB 42) 7 = .ok (.aload_n 0, 1)) rfl
theorem t42_8 : rn 42 8 ls (.ref a :: r) M = if mK M a = (12, 0) then rn 42 11 ls (.int (mI M a 0) :: r) M else none := r_getI (ci := 2) (k := 0) (by decide +kernel : decode (mB 42) 8 = .ok (.getfield 28, 3)) (by decide +kernel) (Or.inl rfl)
theorem t42_11 : rn 42 11 ls (.int y :: .int x :: r) M = if y ≤ x then rn 42 42 ls r M else rn 42 14 ls r M := r_if (o := 31) (r := r) (c := y ≤ x) (by decide +kernel : decode (mB 42) 11 = .ok (.if_icmp .ge 31, 3)) rfl (by decide) rfl
theorem t42_14 : rn 42 14 (some (.ref a) :: l) r M = rn 42 15 (some (.ref a) :: l) (.ref a :: r) M := r_aload_n (by decide +kernel : decode (mB 42) 14 = .ok (.aload_n 0, 1)) rfl
theorem t42_15 : rn 42 15 ls (.ref a :: r) M = if mK M a = (12, 0) then rn 42 18 ls (va_rf (mP M a 6) :: r) M else none := r_getP (ci := 2) (k := 6) (by decide +kernel : decode (mB 42) 15 = .ok (.getfield 25, 3)) (by decide +kernel) rfl
theorem t42_18 : rn 42 18 (a0 :: a1 :: a2 :: a3 :: a4 :: some (.int x) :: l) r M = rn 42 20 (a0 :: a1 :: a2 :: a3 :: a4 :: some (.int x) :: l) (.int x :: r) M := r_iload (by decide +kernel : decode (mB 42) 18 = .ok (.iload 5, 2)) rfl
theorem t42_20 : rn 42 20 ls (.int x :: .ref a :: r) M = if (mK M a).1 = 2 ∧ inR x (mK M a).2 then rn 42 21 ls (.long (mJ M a x.toNatClampNeg) :: r) M else none := r_cnd (by decide +kernel : decode (mB 42) 20 = .ok (.laload, 1)) rfl rfl
theorem t42_21 : rn 42 21 (a0 :: some (.long u) :: none :: l) r M = rn 42 22 (a0 :: some (.long u) :: none :: l) (.long u :: r) M := r_lload_n (by decide +kernel : decode (mB 42) 21 = .ok (.lload_n 1, 1)) rfl rfl
theorem t42_22 : rn 42 22 ls (.long v :: .long u :: r) M = rn 42 23 ls (.long (u &&& v) :: r) M := r_nx (by decide +kernel : decode (mB 42) 22 = .ok (.land, 1)) rfl rfl
theorem t42_23 : rn 42 23 ls r M = rn 42 24 ls (.long 0 :: r) M := r_nx (by decide +kernel : decode (mB 42) 23 = .ok (.lconst 0, 1)) rfl rfl
theorem t42_24 : rn 42 24 ls (.long v :: .long u :: r) M = rn 42 25 ls (.int (lg_cmp u v) :: r) M := r_nx (by decide +kernel : decode (mB 42) 24 = .ok (.lcmp, 1)) rfl rfl
theorem t42_25 : rn 42 25 ls (.int x :: r) M = if x = 0 then rn 42 36 ls r M else rn 42 28 ls r M := r_if (o := 11) (r := r) (c := x = 0) (by decide +kernel : decode (mB 42) 25 = .ok (.ifCond .eq 11, 3)) rfl (by decide) rfl
theorem t42_28 : rn 42 28 (a0 :: a1 :: a2 :: some (.long u) :: none :: l) r M = rn 42 29 (a0 :: a1 :: a2 :: some (.long u) :: none :: l) (.long u :: r) M := r_lload_n (by decide +kernel : decode (mB 42) 28 = .ok (.lload_n 3, 1)) rfl rfl
theorem t42_29 : rn 42 29 (a0 :: a1 :: a2 :: a3 :: a4 :: some (.int x) :: l) r M = rn 42 31 (a0 :: a1 :: a2 :: a3 :: a4 :: some (.int x) :: l) (.int x :: r) M := r_iload (by decide +kernel : decode (mB 42) 29 = .ok (.iload 5, 2)) rfl
theorem t42_31 : rn 42 31 ls [.int x, .long u] M = cbn (cl 24 [.int x] M) 42 34 ls [.long u] := r_callS (kd := 3) (by decide +kernel : decode (mB 42) 31 = .ok (.invokestatic 61, 3)) (by decide +kernel) (by decide +kernel) ((doS_n np_24).trans rfl)
theorem t42_34 : rn 42 34 ls (.long v :: .long u :: r) M = rn 42 35 ls (.long (u ||| v) :: r) M := r_nx (by decide +kernel : decode (mB 42) 34 = .ok (.lor, 1)) rfl rfl
theorem t42_35 : rn 42 35 (a0 :: a1 :: a2 :: a3 :: a4 :: l) (.long u :: r) M = rn 42 36 (a0 :: a1 :: a2 :: some (.long u) :: none :: l) r M := r_lstore_n (by decide +kernel : decode (mB 42) 35 = .ok (.lstore_n 3, 1)) (Nat.le_add_left 5 l.length)
theorem t42_36 : rn 42 36 (a0 :: a1 :: a2 :: a3 :: a4 :: some (.int x) :: l) r M = rn 42 39 (a0 :: a1 :: a2 :: a3 :: a4 :: some (.int (x + 1)) :: l) r M := r_iinc (by decide +kernel : decode (mB 42) 36 = .ok (.iinc 5 1, 3)) rfl
theorem t42_39 : rn 42 39 ls r M = rn 42 5 ls r M := r_goto (o := (-34)) (by decide +kernel : decode (mB 42) 39 = .ok (.goto (-34), 3)) (by decide)
theorem t42_42 : rn 42 42 (a0 :: a1 :: a2 :: some (.long u) :: none :: l) r M = rn 42 43 (a0 :: a1 :: a2 :: some (.long u) :: none :: l) (.long u :: r) M := r_lload_n (by decide +kernel : decode (mB 42) 42 = .ok (.lload_n 3, 1)) rfl rfl
theorem t42_43 : rn 42 43 (a0 :: some (.long u) :: none :: l) r M = rn 42 44 (a0 :: some (.long u) :: none :: l) (.long u :: r) M := r_lload_n (by decide +kernel : decode (mB 42) 43 = .ok (.lload_n 1, 1)) rfl rfl
theorem t42_44 : rn 42 44 ls r M = rn 42 47 ls (.long (-1) :: r) M := r_nx (by decide +kernel : decode (mB 42) 44 = .ok (.ldc2_w 72, 3)) rfl rfl
theorem t42_47 : rn 42 47 ls (.long v :: .long u :: r) M = rn 42 48 ls (.long (u ^^^ v) :: r) M := r_nx (by decide +kernel : decode (mB 42) 47 = .ok (.lxor, 1)) rfl rfl
theorem t42_48 : rn 42 48 ls (.long v :: .long u :: r) M = rn 42 49 ls (.long (u &&& v) :: r) M := r_nx (by decide +kernel : decode (mB 42) 48 = .ok (.land, 1)) rfl rfl
theorem t42_49 : rn 42 49 ls [.long u] M = some (some (.long u), M) := r_lreturn (by decide +kernel : decode (mB 42) 49 = .ok (.lreturn, 1)) rfl
-- 44 State_findEntry(I)I
theorem t44_0 : rn 44 0 (some (.ref a) :: l) r M = rn 44 1 (some (.ref a) :: l) (.ref a :: r) M := r_aload_n (by decide +kernel : decode (mB 44) 0 = .ok (.aload_n 0, 1)) rfl
theorem t44_1 : rn 44 1 (a0 :: some (.int x) :: l) r M = rn 44 2 (a0 :: some (.int x) :: l) (.int x :: r) M := r_iload_n (by decide +kernel : decode (mB 44) 1 = .ok (.iload_n 1, 1)) rfl
theorem t44_2 : rn 44 2 ls r M = rn 44 3 ls (.int 1 :: r) M := r_nx (by decide +kernel : decode (mB 44) 2 = .ok (.iconst 1, 1)) rfl rfl
theorem t44_3 : rn 44 3 ls [.int x, .int y, .ref a] M = if mK M a = (11, 0) then cbn (cl 40 [.ref a, .int y, .int x] M) 44 6 ls [] else none := r_callV (kd := 0) (by decide +kernel : decode (mB 44) 3 = .ok (.invokevirtual 67, 3)) (by decide +kernel) ((doV_n np_40).trans rfl)
theorem t44_6 : rn 44 6 ls [.int x] M = some (some (.int x), M) := r_ireturn (by decide +kernel : decode (mB 44) 6 = .ok (.ireturn, 1)) rfl
-- 47 Replay_makeRound(LDependentReplay$Log;)I
theorem t47_0 : rn 47 0 (some (.ref a) :: l) r M = rn 47 1 (some (.ref a) :: l) (.ref a :: r) M := r_aload_n (by decide +kernel : decode (mB 47) 0 = .ok (.aload_n 0, 1)) rfl
theorem t47_1 : rn 47 1 (a0 :: some (.ref a) :: l) r M = rn 47 2 (a0 :: some (.ref a) :: l) (.ref a :: r) M := r_aload_n (by decide +kernel : decode (mB 47) 1 = .ok (.aload_n 1, 1)) rfl
theorem t47_2 : rn 47 2 (some (.ref a) :: l) r M = rn 47 3 (some (.ref a) :: l) (.ref a :: r) M := r_aload_n (by decide +kernel : decode (mB 47) 2 = .ok (.aload_n 0, 1)) rfl
theorem t47_3 : rn 47 3 (a0 :: some (.ref a) :: l) r M = rn 47 4 (a0 :: some (.ref a) :: l) (.ref a :: r) M := r_aload_n (by decide +kernel : decode (mB 47) 3 = .ok (.aload_n 1, 1)) rfl
theorem t47_4 : rn 47 4 ls [.ref a, .ref b, .ref c, .ref d] M = if mK M b = (13, 0) then cbn (cl 48 [.ref b, .ref a] M) 47 7 ls [.ref c, .ref d] else none := r_callV (kd := 0) (by decide +kernel : decode (mB 47) 4 = .ok (.invokevirtual 81, 3)) (by decide +kernel) ((doV_n np_48).trans rfl)
theorem t47_7 : rn 47 7 ls [.long u, .ref a, .ref b] M = if mK M b = (13, 0) then cbn (cl 49 [.ref b, .ref a, .long u] M) 47 10 ls [] else none := r_callV (kd := 0) (by decide +kernel : decode (mB 47) 7 = .ok (.invokevirtual 85, 3)) (by decide +kernel) ((doV_n np_49).trans rfl)
theorem t47_10 : rn 47 10 ls [.int x] M = some (some (.int x), M) := r_ireturn (by decide +kernel : decode (mB 47) 10 = .ok (.ireturn, 1)) rfl
-- 48 Replay_ready(LDependentReplay$Log;)J
theorem t48_0 : rn 48 0 (a0 :: some (.ref a) :: l) r M = rn 48 1 (a0 :: some (.ref a) :: l) (.ref a :: r) M := r_aload_n (by decide +kernel : decode (mB 48) 0 = .ok (.aload_n 1, 1)) rfl
theorem t48_1 : rn 48 1 ls (.ref a :: r) M = if mK M a = (12, 0) then rn 48 4 ls (.long (mJ M a 1) :: r) M else none := r_getJ (ci := 2) (k := 1) (by decide +kernel : decode (mB 48) 1 = .ok (.getfield 59, 3)) (by decide +kernel) rfl
theorem t48_4 : rn 48 4 (some (.ref a) :: l) r M = rn 48 5 (some (.ref a) :: l) (.ref a :: r) M := r_aload_n (by decide +kernel : decode (mB 48) 4 = .ok (.aload_n 0, 1)) rfl
theorem t48_5 : rn 48 5 ls (.ref a :: r) M = if mK M a = (13, 0) then rn 48 8 ls (.long (mJ M a 0) :: r) M else none := r_getJ (ci := 3) (k := 0) (by decide +kernel : decode (mB 48) 5 = .ok (.getfield 28, 3)) (by decide +kernel) rfl
theorem t48_8 : rn 48 8 ls (.long v :: .long u :: r) M = rn 48 9 ls (.long (u ||| v) :: r) M := r_nx (by decide +kernel : decode (mB 48) 8 = .ok (.lor, 1)) rfl rfl
theorem t48_9 : rn 48 9 (a0 :: a1 :: a2 :: a3 :: l) (.long u :: r) M = rn 48 10 (a0 :: a1 :: some (.long u) :: none :: l) r M := r_lstore_n (by decide +kernel : decode (mB 48) 9 = .ok (.lstore_n 2, 1)) (Nat.le_add_left 4 l.length)
theorem t48_10 : rn 48 10 ls r M = rn 48 11 ls (.long 0 :: r) M := r_nx (by decide +kernel : decode (mB 48) 10 = .ok (.lconst 0, 1)) rfl rfl
theorem t48_11 : rn 48 11 (a0 :: a1 :: a2 :: a3 :: a4 :: a5 :: l) (.long u :: r) M = rn 48 13 (a0 :: a1 :: a2 :: a3 :: some (.long u) :: none :: l) r M := r_lstore (by decide +kernel : decode (mB 48) 11 = .ok (.lstore 4, 2)) (Nat.le_add_left 6 l.length)
theorem t48_13 : rn 48 13 ls r M = rn 48 14 ls (.int 0 :: r) M := r_nx (by decide +kernel : decode (mB 48) 13 = .ok (.iconst 0, 1)) rfl rfl
theorem t48_14 : rn 48 14 (a0 :: a1 :: a2 :: a3 :: a4 :: a5 :: a6 :: l) (.int x :: r) M = rn 48 16 (a0 :: a1 :: a2 :: a3 :: a4 :: a5 :: some (.int x) :: l) r M := r_istore (by decide +kernel : decode (mB 48) 14 = .ok (.istore 6, 2)) (Nat.le_add_left 7 l.length)
theorem t48_16 : rn 48 16 (a0 :: a1 :: a2 :: a3 :: a4 :: a5 :: some (.int x) :: l) r M = rn 48 18 (a0 :: a1 :: a2 :: a3 :: a4 :: a5 :: some (.int x) :: l) (.int x :: r) M := r_iload (by decide +kernel : decode (mB 48) 16 = .ok (.iload 6, 2)) rfl
theorem t48_18 : rn 48 18 (a0 :: some (.ref a) :: l) r M = rn 48 19 (a0 :: some (.ref a) :: l) (.ref a :: r) M := r_aload_n (by decide +kernel : decode (mB 48) 18 = .ok (.aload_n 1, 1)) rfl
theorem t48_19 : rn 48 19 ls (.ref a :: r) M = if mK M a = (12, 0) then rn 48 22 ls (.int (mI M a 0) :: r) M else none := r_getI (ci := 2) (k := 0) (by decide +kernel : decode (mB 48) 19 = .ok (.getfield 64, 3)) (by decide +kernel) (Or.inl rfl)
theorem t48_22 : rn 48 22 ls (.int y :: .int x :: r) M = if y ≤ x then rn 48 71 ls r M else rn 48 25 ls r M := r_if (o := 49) (r := r) (c := y ≤ x) (by decide +kernel : decode (mB 48) 22 = .ok (.if_icmp .ge 49, 3)) rfl (by decide) rfl
theorem t48_25 : rn 48 25 (a0 :: a1 :: some (.long u) :: none :: l) r M = rn 48 26 (a0 :: a1 :: some (.long u) :: none :: l) (.long u :: r) M := r_lload_n (by decide +kernel : decode (mB 48) 25 = .ok (.lload_n 2, 1)) rfl rfl
theorem t48_26 : rn 48 26 (a0 :: a1 :: a2 :: a3 :: a4 :: a5 :: some (.int x) :: l) r M = rn 48 28 (a0 :: a1 :: a2 :: a3 :: a4 :: a5 :: some (.int x) :: l) (.int x :: r) M := r_iload (by decide +kernel : decode (mB 48) 26 = .ok (.iload 6, 2)) rfl
theorem t48_28 : rn 48 28 ls [.int x, .long u] M = cbn (cl 27 [.long u, .int x] M) 48 31 ls [] := r_callS (kd := 3) (by decide +kernel : decode (mB 48) 28 = .ok (.invokestatic 67, 3)) (by decide +kernel) (by decide +kernel) ((doS_n np_27).trans rfl)
theorem t48_31 : rn 48 31 ls (.int x :: r) M = if ¬ x = 0 then rn 48 65 ls r M else rn 48 34 ls r M := r_if (o := 34) (r := r) (c := ¬ x = 0) (by decide +kernel : decode (mB 48) 31 = .ok (.ifCond .ne 34, 3)) rfl (by decide) rfl
theorem t48_34 : rn 48 34 (a0 :: some (.ref a) :: l) r M = rn 48 35 (a0 :: some (.ref a) :: l) (.ref a :: r) M := r_aload_n (by decide +kernel : decode (mB 48) 34 = .ok (.aload_n 1, 1)) rfl
theorem t48_35 : rn 48 35 ls (.ref a :: r) M = if mK M a = (12, 0) then rn 48 38 ls (va_rf (mP M a 5) :: r) M else none := r_getP (ci := 2) (k := 5) (by decide +kernel : decode (mB 48) 35 = .ok (.getfield 71, 3)) (by decide +kernel) rfl
theorem t48_38 : rn 48 38 (a0 :: a1 :: a2 :: a3 :: a4 :: a5 :: some (.int x) :: l) r M = rn 48 40 (a0 :: a1 :: a2 :: a3 :: a4 :: a5 :: some (.int x) :: l) (.int x :: r) M := r_iload (by decide +kernel : decode (mB 48) 38 = .ok (.iload 6, 2)) rfl
theorem t48_40 : rn 48 40 ls (.int x :: .ref a :: r) M = if (mK M a).1 = 2 ∧ inR x (mK M a).2 then rn 48 41 ls (.long (mJ M a x.toNatClampNeg) :: r) M else none := r_cnd (by decide +kernel : decode (mB 48) 40 = .ok (.laload, 1)) rfl rfl
theorem t48_41 : rn 48 41 (some (.ref a) :: l) r M = rn 48 42 (some (.ref a) :: l) (.ref a :: r) M := r_aload_n (by decide +kernel : decode (mB 48) 41 = .ok (.aload_n 0, 1)) rfl
theorem t48_42 : rn 48 42 ls (.ref a :: r) M = if mK M a = (13, 0) then rn 48 45 ls (.long (mJ M a 0) :: r) M else none := r_getJ (ci := 3) (k := 0) (by decide +kernel : decode (mB 48) 42 = .ok (.getfield 28, 3)) (by decide +kernel) rfl
theorem t48_45 : rn 48 45 ls r M = rn 48 48 ls (.long (-1) :: r) M := r_nx (by decide +kernel : decode (mB 48) 45 = .ok (.ldc2_w 75, 3)) rfl rfl
theorem t48_48 : rn 48 48 ls (.long v :: .long u :: r) M = rn 48 49 ls (.long (u ^^^ v) :: r) M := r_nx (by decide +kernel : decode (mB 48) 48 = .ok (.lxor, 1)) rfl rfl
theorem t48_49 : rn 48 49 ls (.long v :: .long u :: r) M = rn 48 50 ls (.long (u &&& v) :: r) M := r_nx (by decide +kernel : decode (mB 48) 49 = .ok (.land, 1)) rfl rfl
theorem t48_50 : rn 48 50 ls r M = rn 48 51 ls (.long 0 :: r) M := r_nx (by decide +kernel : decode (mB 48) 50 = .ok (.lconst 0, 1)) rfl rfl
theorem t48_51 : rn 48 51 ls (.long v :: .long u :: r) M = rn 48 52 ls (.int (lg_cmp u v) :: r) M := r_nx (by decide +kernel : decode (mB 48) 51 = .ok (.lcmp, 1)) rfl rfl
theorem t48_52 : rn 48 52 ls (.int x :: r) M = if ¬ x = 0 then rn 48 65 ls r M else rn 48 55 ls r M := r_if (o := 13) (r := r) (c := ¬ x = 0) (by decide +kernel : decode (mB 48) 52 = .ok (.ifCond .ne 13, 3)) rfl (by decide) rfl
theorem t48_55 : rn 48 55 (a0 :: a1 :: a2 :: a3 :: some (.long u) :: none :: l) r M = rn 48 57 (a0 :: a1 :: a2 :: a3 :: some (.long u) :: none :: l) (.long u :: r) M := r_lload (by decide +kernel : decode (mB 48) 55 = .ok (.lload 4, 2)) rfl rfl
theorem t48_57 : rn 48 57 (a0 :: a1 :: a2 :: a3 :: a4 :: a5 :: some (.int x) :: l) r M = rn 48 59 (a0 :: a1 :: a2 :: a3 :: a4 :: a5 :: some (.int x) :: l) (.int x :: r) M := r_iload (by decide +kernel : decode (mB 48) 57 = .ok (.iload 6, 2)) rfl
theorem t48_59 : rn 48 59 ls [.int x, .long u] M = cbn (cl 24 [.int x] M) 48 62 ls [.long u] := r_callS (kd := 3) (by decide +kernel : decode (mB 48) 59 = .ok (.invokestatic 77, 3)) (by decide +kernel) (by decide +kernel) ((doS_n np_24).trans rfl)
theorem t48_62 : rn 48 62 ls (.long v :: .long u :: r) M = rn 48 63 ls (.long (u ||| v) :: r) M := r_nx (by decide +kernel : decode (mB 48) 62 = .ok (.lor, 1)) rfl rfl
theorem t48_63 : rn 48 63 (a0 :: a1 :: a2 :: a3 :: a4 :: a5 :: l) (.long u :: r) M = rn 48 65 (a0 :: a1 :: a2 :: a3 :: some (.long u) :: none :: l) r M := r_lstore (by decide +kernel : decode (mB 48) 63 = .ok (.lstore 4, 2)) (Nat.le_add_left 6 l.length)
theorem t48_65 : rn 48 65 (a0 :: a1 :: a2 :: a3 :: a4 :: a5 :: some (.int x) :: l) r M = rn 48 68 (a0 :: a1 :: a2 :: a3 :: a4 :: a5 :: some (.int (x + 1)) :: l) r M := r_iinc (by decide +kernel : decode (mB 48) 65 = .ok (.iinc 6 1, 3)) rfl
theorem t48_68 : rn 48 68 ls r M = rn 48 16 ls r M := r_goto (o := (-52)) (by decide +kernel : decode (mB 48) 68 = .ok (.goto (-52), 3)) (by decide)
theorem t48_71 : rn 48 71 (a0 :: a1 :: a2 :: a3 :: some (.long u) :: none :: l) r M = rn 48 73 (a0 :: a1 :: a2 :: a3 :: some (.long u) :: none :: l) (.long u :: r) M := r_lload (by decide +kernel : decode (mB 48) 71 = .ok (.lload 4, 2)) rfl rfl
theorem t48_73 : rn 48 73 ls [.long u] M = some (some (.long u), M) := r_lreturn (by decide +kernel : decode (mB 48) 73 = .ok (.lreturn, 1)) rfl
-- 49 Replay_replayReady(LDependentReplay$Log;J)I
theorem t49_0 : rn 49 0 ls r M = rn 49 1 ls (.int 0 :: r) M := r_nx (by decide +kernel : decode (mB 49) 0 = .ok (.iconst 0, 1)) rfl rfl
theorem t49_1 : rn 49 1 (a0 :: a1 :: a2 :: a3 :: a4 :: l) (.int x :: r) M = rn 49 3 (a0 :: a1 :: a2 :: a3 :: some (.int x) :: l) r M := r_istore (by decide +kernel : decode (mB 49) 1 = .ok (.istore 4, 2)) (Nat.le_add_left 5 l.length)
theorem t49_3 : rn 49 3 (a0 :: a1 :: a2 :: a3 :: some (.int x) :: l) r M = rn 49 5 (a0 :: a1 :: a2 :: a3 :: some (.int x) :: l) (.int x :: r) M := r_iload (by decide +kernel : decode (mB 49) 3 = .ok (.iload 4, 2)) rfl
theorem t49_5 : rn 49 5 (a0 :: some (.ref a) :: l) r M = rn 49 6 (a0 :: some (.ref a) :: l) (.ref a :: r) M := r_aload_n (by decide +kernel : decode (mB 49) 5 = .ok (.aload_n 1, 1)) rfl
theorem t49_6 : rn 49 6 ls (.ref a :: r) M = if mK M a = (12, 0) then rn 49 9 ls (.int (mI M a 0) :: r) M else none := r_getI (ci := 2) (k := 0) (by decide +kernel : decode (mB 49) 6 = .ok (.getfield 64, 3)) (by decide +kernel) (Or.inl rfl)
theorem t49_9 : rn 49 9 ls (.int y :: .int x :: r) M = if y ≤ x then rn 49 101 ls r M else rn 49 12 ls r M := r_if (o := 92) (r := r) (c := y ≤ x) (by decide +kernel : decode (mB 49) 9 = .ok (.if_icmp .ge 92, 3)) rfl (by decide) rfl
theorem t49_12 : rn 49 12 (a0 :: a1 :: some (.long u) :: none :: l) r M = rn 49 13 (a0 :: a1 :: some (.long u) :: none :: l) (.long u :: r) M := r_lload_n (by decide +kernel : decode (mB 49) 12 = .ok (.lload_n 2, 1)) rfl rfl
theorem t49_13 : rn 49 13 (a0 :: a1 :: a2 :: a3 :: some (.int x) :: l) r M = rn 49 15 (a0 :: a1 :: a2 :: a3 :: some (.int x) :: l) (.int x :: r) M := r_iload (by decide +kernel : decode (mB 49) 13 = .ok (.iload 4, 2)) rfl
theorem t49_15 : rn 49 15 ls [.int x, .long u] M = cbn (cl 27 [.long u, .int x] M) 49 18 ls [] := r_callS (kd := 3) (by decide +kernel : decode (mB 49) 15 = .ok (.invokestatic 67, 3)) (by decide +kernel) (by decide +kernel) ((doS_n np_27).trans rfl)
theorem t49_18 : rn 49 18 ls (.int x :: r) M = if x = 0 then rn 49 95 ls r M else rn 49 21 ls r M := r_if (o := 77) (r := r) (c := x = 0) (by decide +kernel : decode (mB 49) 18 = .ok (.ifCond .eq 77, 3)) rfl (by decide) rfl
theorem t49_21 : rn 49 21 (some (.ref a) :: l) r M = rn 49 22 (some (.ref a) :: l) (.ref a :: r) M := r_aload_n (by decide +kernel : decode (mB 49) 21 = .ok (.aload_n 0, 1)) rfl
theorem t49_22 : rn 49 22 ls (.ref a :: r) M = if mK M a = (13, 0) then rn 49 25 ls (va_rf (mP M a 5) :: r) M else none := r_getP (ci := 3) (k := 5) (by decide +kernel : decode (mB 49) 22 = .ok (.getfield 15, 3)) (by decide +kernel) rfl
theorem t49_25 : rn 49 25 (a0 :: a1 :: a2 :: a3 :: some (.int x) :: l) r M = rn 49 27 (a0 :: a1 :: a2 :: a3 :: some (.int x) :: l) (.int x :: r) M := r_iload (by decide +kernel : decode (mB 49) 25 = .ok (.iload 4, 2)) rfl
theorem t49_27 : rn 49 27 (some (.ref a) :: l) r M = rn 49 28 (some (.ref a) :: l) (.ref a :: r) M := r_aload_n (by decide +kernel : decode (mB 49) 27 = .ok (.aload_n 0, 1)) rfl
theorem t49_28 : rn 49 28 ls (.ref a :: r) M = if mK M a = (13, 0) then rn 49 31 ls (va_rf (mP M a 6) :: r) M else none := r_getP (ci := 3) (k := 6) (by decide +kernel : decode (mB 49) 28 = .ok (.getfield 21, 3)) (by decide +kernel) rfl
theorem t49_31 : rn 49 31 (a0 :: some (.ref a) :: l) r M = rn 49 32 (a0 :: some (.ref a) :: l) (.ref a :: r) M := r_aload_n (by decide +kernel : decode (mB 49) 31 = .ok (.aload_n 1, 1)) rfl
theorem t49_32 : rn 49 32 ls (.ref a :: r) M = if mK M a = (12, 0) then rn 49 35 ls (va_rf (mP M a 2) :: r) M else none := r_getP (ci := 2) (k := 2) (by decide +kernel : decode (mB 49) 32 = .ok (.getfield 89, 3)) (by decide +kernel) rfl
theorem t49_35 : rn 49 35 (a0 :: a1 :: a2 :: a3 :: some (.int x) :: l) r M = rn 49 37 (a0 :: a1 :: a2 :: a3 :: some (.int x) :: l) (.int x :: r) M := r_iload (by decide +kernel : decode (mB 49) 35 = .ok (.iload 4, 2)) rfl
theorem t49_37 : rn 49 37 ls (.int x :: .ref a :: r) M = if ((mK M a).1 = 1 ∨ (mK M a).1 = 5) ∧ inR x (mK M a).2 then rn 49 38 ls (.int (mI M a x.toNatClampNeg) :: r) M else none := r_cnd (by decide +kernel : decode (mB 49) 37 = .ok (.iaload, 1)) rfl rfl
theorem t49_38 : rn 49 38 (a0 :: some (.ref a) :: l) r M = rn 49 39 (a0 :: some (.ref a) :: l) (.ref a :: r) M := r_aload_n (by decide +kernel : decode (mB 49) 38 = .ok (.aload_n 1, 1)) rfl
theorem t49_39 : rn 49 39 ls (.ref a :: r) M = if mK M a = (12, 0) then rn 49 42 ls (va_rf (mP M a 3) :: r) M else none := r_getP (ci := 2) (k := 3) (by decide +kernel : decode (mB 49) 39 = .ok (.getfield 92, 3)) (by decide +kernel) rfl
theorem t49_42 : rn 49 42 (a0 :: a1 :: a2 :: a3 :: some (.int x) :: l) r M = rn 49 44 (a0 :: a1 :: a2 :: a3 :: some (.int x) :: l) (.int x :: r) M := r_iload (by decide +kernel : decode (mB 49) 42 = .ok (.iload 4, 2)) rfl
theorem t49_44 : rn 49 44 ls (.int x :: .ref a :: r) M = if ((mK M a).1 = 1 ∨ (mK M a).1 = 5) ∧ inR x (mK M a).2 then rn 49 45 ls (.int (mI M a x.toNatClampNeg) :: r) M else none := r_cnd (by decide +kernel : decode (mB 49) 44 = .ok (.iaload, 1)) rfl rfl
theorem t49_45 : rn 49 45 (a0 :: some (.ref a) :: l) r M = rn 49 46 (a0 :: some (.ref a) :: l) (.ref a :: r) M := r_aload_n (by decide +kernel : decode (mB 49) 45 = .ok (.aload_n 1, 1)) rfl
theorem t49_46 : rn 49 46 ls (.ref a :: r) M = if mK M a = (12, 0) then rn 49 49 ls (va_rf (mP M a 4) :: r) M else none := r_getP (ci := 2) (k := 4) (by decide +kernel : decode (mB 49) 46 = .ok (.getfield 95, 3)) (by decide +kernel) rfl
theorem t49_49 : rn 49 49 (a0 :: a1 :: a2 :: a3 :: some (.int x) :: l) r M = rn 49 51 (a0 :: a1 :: a2 :: a3 :: some (.int x) :: l) (.int x :: r) M := r_iload (by decide +kernel : decode (mB 49) 49 = .ok (.iload 4, 2)) rfl
theorem t49_51 : rn 49 51 ls (.int x :: .ref a :: r) M = if ((mK M a).1 = 1 ∨ (mK M a).1 = 5) ∧ inR x (mK M a).2 then rn 49 52 ls (.int (mI M a x.toNatClampNeg) :: r) M else none := r_cnd (by decide +kernel : decode (mB 49) 51 = .ok (.iaload, 1)) rfl rfl
theorem t49_52 : rn 49 52 ls [.int x, .int y, .int z, .ref a, .int w, .ref b] M = if mK M a = (14, 0) then cbn (cl 50 [.ref a, .int z, .int y, .int x] M) 49 55 ls [.int w, .ref b] else none := r_callV (kd := 0) (by decide +kernel : decode (mB 49) 52 = .ok (.invokevirtual 98, 3)) (by decide +kernel) ((doV_n np_50).trans rfl)
theorem t49_55 : rn 49 55 ls (.int y :: .int x :: .ref a :: r) M = if (mK M a).1 = 1 ∧ inR x (mK M a).2 then rn 49 56 ls r (sI M a (va_up (mI M a) x.toNatClampNeg y)) else none := r_cnd (by decide +kernel : decode (mB 49) 55 = .ok (.iastore, 1)) rfl rfl
theorem t49_56 : rn 49 56 (some (.ref a) :: l) r M = rn 49 57 (some (.ref a) :: l) (.ref a :: r) M := r_aload_n (by decide +kernel : decode (mB 49) 56 = .ok (.aload_n 0, 1)) rfl
theorem t49_57 : rn 49 57 ls (.ref a :: r) M = if mK M a = (13, 0) then rn 49 60 ls (va_rf (mP M a 4) :: r) M else none := r_getP (ci := 3) (k := 4) (by decide +kernel : decode (mB 49) 57 = .ok (.getfield 9, 3)) (by decide +kernel) rfl
theorem t49_60 : rn 49 60 (a0 :: a1 :: a2 :: a3 :: some (.int x) :: l) r M = rn 49 62 (a0 :: a1 :: a2 :: a3 :: some (.int x) :: l) (.int x :: r) M := r_iload (by decide +kernel : decode (mB 49) 60 = .ok (.iload 4, 2)) rfl
theorem t49_62 : rn 49 62 (some (.ref a) :: l) r M = rn 49 63 (some (.ref a) :: l) (.ref a :: r) M := r_aload_n (by decide +kernel : decode (mB 49) 62 = .ok (.aload_n 0, 1)) rfl
theorem t49_63 : rn 49 63 ls (.ref a :: r) M = if mK M a = (13, 0) then rn 49 66 ls (.int (mI M a 2) :: r) M else none := r_getI (ci := 3) (k := 2) (by decide +kernel : decode (mB 49) 63 = .ok (.getfield 35, 3)) (by decide +kernel) (Or.inl rfl)
theorem t49_66 : rn 49 66 ls (.int y :: .int x :: .ref a :: r) M = if (mK M a).1 = 1 ∧ inR x (mK M a).2 then rn 49 67 ls r (sI M a (va_up (mI M a) x.toNatClampNeg y)) else none := r_cnd (by decide +kernel : decode (mB 49) 66 = .ok (.iastore, 1)) rfl rfl
theorem t49_67 : rn 49 67 (some (.ref a) :: l) r M = rn 49 68 (some (.ref a) :: l) (.ref a :: r) M := r_aload_n (by decide +kernel : decode (mB 49) 67 = .ok (.aload_n 0, 1)) rfl
theorem t49_68 : rn 49 68 ls (.ref a :: r) M = rn 49 69 ls (.ref a :: .ref a :: r) M := r_nx (by decide +kernel : decode (mB 49) 68 = .ok (.dup, 1)) rfl rfl
theorem t49_69 : rn 49 69 ls (.ref a :: r) M = if mK M a = (13, 0) then rn 49 72 ls (.long (mJ M a 1) :: r) M else none := r_getJ (ci := 3) (k := 1) (by decide +kernel : decode (mB 49) 69 = .ok (.getfield 32, 3)) (by decide +kernel) rfl
theorem t49_72 : rn 49 72 (some (.ref a) :: l) r M = rn 49 73 (some (.ref a) :: l) (.ref a :: r) M := r_aload_n (by decide +kernel : decode (mB 49) 72 = .ok (.aload_n 0, 1)) rfl
theorem t49_73 : rn 49 73 ls (.ref a :: r) M = if mK M a = (13, 0) then rn 49 76 ls (va_rf (mP M a 5) :: r) M else none := r_getP (ci := 3) (k := 5) (by decide +kernel : decode (mB 49) 73 = .ok (.getfield 15, 3)) (by decide +kernel) rfl
theorem t49_76 : rn 49 76 (a0 :: a1 :: a2 :: a3 :: some (.int x) :: l) r M = rn 49 78 (a0 :: a1 :: a2 :: a3 :: some (.int x) :: l) (.int x :: r) M := r_iload (by decide +kernel : decode (mB 49) 76 = .ok (.iload 4, 2)) rfl
theorem t49_78 : rn 49 78 ls (.int x :: .ref a :: r) M = if ((mK M a).1 = 1 ∨ (mK M a).1 = 5) ∧ inR x (mK M a).2 then rn 49 79 ls (.int (mI M a x.toNatClampNeg) :: r) M else none := r_cnd (by decide +kernel : decode (mB 49) 78 = .ok (.iaload, 1)) rfl rfl
theorem t49_79 : rn 49 79 ls (.int x :: r) M = if ¬ x = 0 then rn 49 86 ls r M else rn 49 82 ls r M := r_if (o := 7) (r := r) (c := ¬ x = 0) (by decide +kernel : decode (mB 49) 79 = .ok (.ifCond .ne 7, 3)) rfl (by decide) rfl
theorem t49_82 : rn 49 82 ls r M = rn 49 83 ls (.long 0 :: r) M := r_nx (by decide +kernel : decode (mB 49) 82 = .ok (.lconst 0, 1)) rfl rfl
theorem t49_83 : rn 49 83 ls r M = rn 49 91 ls r M := r_goto (o := 8) (by decide +kernel : decode (mB 49) 83 = .ok (.goto 8, 3)) (by decide)
theorem t49_86 : rn 49 86 (a0 :: a1 :: a2 :: a3 :: some (.int x) :: l) r M = rn 49 88 (a0 :: a1 :: a2 :: a3 :: some (.int x) :: l) (.int x :: r) M := r_iload (by decide +kernel : decode (mB 49) 86 = .ok (.iload 4, 2)) rfl
theorem t49_88 : rn 49 88 ls [.int x, .long u, .ref a] M = cbn (cl 24 [.int x] M) 49 91 ls [.long u, .ref a] := r_callS (kd := 3) (by decide +kernel : decode (mB 49) 88 = .ok (.invokestatic 77, 3)) (by decide +kernel) (by decide +kernel) ((doS_n np_24).trans rfl)
theorem t49_91 : rn 49 91 ls (.long v :: .long u :: r) M = rn 49 92 ls (.long (u ||| v) :: r) M := r_nx (by decide +kernel : decode (mB 49) 91 = .ok (.lor, 1)) rfl rfl
theorem t49_92 : rn 49 92 ls (.long u :: .ref a :: r) M = if mK M a = (13, 0) then rn 49 95 ls r (sJ M a (va_up (mJ M a) 1 u)) else none := r_putJ (ci := 3) (k := 1) (by decide +kernel : decode (mB 49) 92 = .ok (.putfield 32, 3)) (by decide +kernel) rfl rfl
theorem t49_95 : rn 49 95 (a0 :: a1 :: a2 :: a3 :: some (.int x) :: l) r M = rn 49 98 (a0 :: a1 :: a2 :: a3 :: some (.int (x + 1)) :: l) r M := r_iinc (by decide +kernel : decode (mB 49) 95 = .ok (.iinc 4 1, 3)) rfl
theorem t49_98 : rn 49 98 ls r M = rn 49 3 ls r M := r_goto (o := (-95)) (by decide +kernel : decode (mB 49) 98 = .ok (.goto (-95), 3)) (by decide)
theorem t49_101 : rn 49 101 (some (.ref a) :: l) r M = rn 49 102 (some (.ref a) :: l) (.ref a :: r) M := r_aload_n (by decide +kernel : decode (mB 49) 101 = .ok (.aload_n 0, 1)) rfl
theorem t49_102 : rn 49 102 ls (.ref a :: r) M = rn 49 103 ls (.ref a :: .ref a :: r) M := r_nx (by decide +kernel : decode (mB 49) 102 = .ok (.dup, 1)) rfl rfl
theorem t49_103 : rn 49 103 ls (.ref a :: r) M = if mK M a = (13, 0) then rn 49 106 ls (.long (mJ M a 0) :: r) M else none := r_getJ (ci := 3) (k := 0) (by decide +kernel : decode (mB 49) 103 = .ok (.getfield 28, 3)) (by decide +kernel) rfl
theorem t49_106 : rn 49 106 (a0 :: a1 :: some (.long u) :: none :: l) r M = rn 49 107 (a0 :: a1 :: some (.long u) :: none :: l) (.long u :: r) M := r_lload_n (by decide +kernel : decode (mB 49) 106 = .ok (.lload_n 2, 1)) rfl rfl
theorem t49_107 : rn 49 107 ls (.long v :: .long u :: r) M = rn 49 108 ls (.long (u ||| v) :: r) M := r_nx (by decide +kernel : decode (mB 49) 107 = .ok (.lor, 1)) rfl rfl
theorem t49_108 : rn 49 108 ls (.long u :: .ref a :: r) M = if mK M a = (13, 0) then rn 49 111 ls r (sJ M a (va_up (mJ M a) 0 u)) else none := r_putJ (ci := 3) (k := 0) (by decide +kernel : decode (mB 49) 108 = .ok (.putfield 28, 3)) (by decide +kernel) rfl rfl
theorem t49_111 : rn 49 111 (a0 :: a1 :: some (.long u) :: none :: l) r M = rn 49 112 (a0 :: a1 :: some (.long u) :: none :: l) (.long u :: r) M := r_lload_n (by decide +kernel : decode (mB 49) 111 = .ok (.lload_n 2, 1)) rfl rfl
theorem t49_112 : rn 49 112 ls [.long u] M = cbn (cl 37 [.long u] M) 49 115 ls [] := r_callS (kd := 2) (by decide +kernel : decode (mB 49) 112 = .ok (.invokestatic 102, 3)) (by decide +kernel) (by decide +kernel) ((doS_n np_37).trans rfl)
theorem t49_115 : rn 49 115 (a0 :: a1 :: a2 :: a3 :: a4 :: l) (.int x :: r) M = rn 49 117 (a0 :: a1 :: a2 :: a3 :: some (.int x) :: l) r M := r_istore (by decide +kernel : decode (mB 49) 115 = .ok (.istore 4, 2)) (Nat.le_add_left 5 l.length)
theorem t49_117 : rn 49 117 (some (.ref a) :: l) r M = rn 49 118 (some (.ref a) :: l) (.ref a :: r) M := r_aload_n (by decide +kernel : decode (mB 49) 117 = .ok (.aload_n 0, 1)) rfl
theorem t49_118 : rn 49 118 (some (.ref a) :: l) r M = rn 49 119 (some (.ref a) :: l) (.ref a :: r) M := r_aload_n (by decide +kernel : decode (mB 49) 118 = .ok (.aload_n 0, 1)) rfl
theorem t49_119 : rn 49 119 ls (.ref a :: r) M = if mK M a = (13, 0) then rn 49 122 ls (.int (mI M a 3) :: r) M else none := r_getI (ci := 3) (k := 3) (by decide +kernel : decode (mB 49) 119 = .ok (.getfield 39, 3)) (by decide +kernel) (Or.inl rfl)
theorem t49_122 : rn 49 122 (a0 :: a1 :: a2 :: a3 :: some (.int x) :: l) r M = rn 49 124 (a0 :: a1 :: a2 :: a3 :: some (.int x) :: l) (.int x :: r) M := r_iload (by decide +kernel : decode (mB 49) 122 = .ok (.iload 4, 2)) rfl
theorem t49_124 : rn 49 124 ls [.int x, .int y, .ref a] M = cbn (cl 56 [.int y, .int x] M) 49 127 ls [.ref a] := r_callS (kd := 2) (by decide +kernel : decode (mB 49) 124 = .ok (.invokestatic 108, 3)) (by decide +kernel) (by decide +kernel) ((doS_n np_56).trans rfl)
theorem t49_127 : rn 49 127 ls (.int x :: .ref a :: r) M = if mK M a = (13, 0) then rn 49 130 ls r (sI M a (va_up (mI M a) 3 x)) else none := r_putI (ci := 3) (k := 3) (by decide +kernel : decode (mB 49) 127 = .ok (.putfield 39, 3)) (by decide +kernel) rfl rfl
theorem t49_130 : rn 49 130 (some (.ref a) :: l) r M = rn 49 131 (some (.ref a) :: l) (.ref a :: r) M := r_aload_n (by decide +kernel : decode (mB 49) 130 = .ok (.aload_n 0, 1)) rfl
theorem t49_131 : rn 49 131 ls (.ref a :: r) M = rn 49 132 ls (.ref a :: .ref a :: r) M := r_nx (by decide +kernel : decode (mB 49) 131 = .ok (.dup, 1)) rfl rfl
theorem t49_132 : rn 49 132 ls (.ref a :: r) M = if mK M a = (13, 0) then rn 49 135 ls (.int (mI M a 2) :: r) M else none := r_getI (ci := 3) (k := 2) (by decide +kernel : decode (mB 49) 132 = .ok (.getfield 35, 3)) (by decide +kernel) (Or.inl rfl)
theorem t49_135 : rn 49 135 ls r M = rn 49 136 ls (.int 1 :: r) M := r_nx (by decide +kernel : decode (mB 49) 135 = .ok (.iconst 1, 1)) rfl rfl
theorem t49_136 : rn 49 136 ls (.int y :: .int x :: r) M = rn 49 137 ls (.int (x + y) :: r) M := r_nx (by decide +kernel : decode (mB 49) 136 = .ok (.iadd, 1)) rfl rfl
theorem t49_137 : rn 49 137 ls (.int x :: .ref a :: r) M = if mK M a = (13, 0) then rn 49 140 ls r (sI M a (va_up (mI M a) 2 x)) else none := r_putI (ci := 3) (k := 2) (by decide +kernel : decode (mB 49) 137 = .ok (.putfield 35, 3)) (by decide +kernel) rfl rfl
theorem t49_140 : rn 49 140 (a0 :: a1 :: a2 :: a3 :: some (.int x) :: l) r M = rn 49 142 (a0 :: a1 :: a2 :: a3 :: some (.int x) :: l) (.int x :: r) M := r_iload (by decide +kernel : decode (mB 49) 140 = .ok (.iload 4, 2)) rfl
theorem t49_142 : rn 49 142 ls [.int x] M = some (some (.int x), M) := r_ireturn (by decide +kernel : decode (mB 49) 142 = .ok (.ireturn, 1)) rfl
-- 50 Tree_apply(III)I
theorem t50_0 : rn 50 0 (some (.ref a) :: l) r M = rn 50 1 (some (.ref a) :: l) (.ref a :: r) M := r_aload_n (by decide +kernel : decode (mB 50) 0 = .ok (.aload_n 0, 1)) rfl
theorem t50_1 : rn 50 1 (a0 :: some (.int x) :: l) r M = rn 50 2 (a0 :: some (.int x) :: l) (.int x :: r) M := r_iload_n (by decide +kernel : decode (mB 50) 1 = .ok (.iload_n 1, 1)) rfl
theorem t50_2 : rn 50 2 (a0 :: a1 :: some (.int x) :: l) r M = rn 50 3 (a0 :: a1 :: some (.int x) :: l) (.int x :: r) M := r_iload_n (by decide +kernel : decode (mB 50) 2 = .ok (.iload_n 2, 1)) rfl
theorem t50_3 : rn 50 3 (a0 :: a1 :: a2 :: some (.int x) :: l) r M = rn 50 4 (a0 :: a1 :: a2 :: some (.int x) :: l) (.int x :: r) M := r_iload_n (by decide +kernel : decode (mB 50) 3 = .ok (.iload_n 3, 1)) rfl
theorem t50_4 : rn 50 4 ls [.int x, .int y, .int z, .ref a] M = if mK M a = (14, 0) then cbn (cl 51 [.ref a, .int z, .int y, .int x] M) 50 7 ls [] else none := r_callV (kd := 0) (by decide +kernel : decode (mB 50) 4 = .ok (.invokevirtual 37, 3)) (by decide +kernel) ((doV_n np_51).trans rfl)
theorem t50_7 : rn 50 7 (a0 :: a1 :: a2 :: a3 :: a4 :: l) (.int x :: r) M = rn 50 9 (a0 :: a1 :: a2 :: a3 :: some (.int x) :: l) r M := r_istore (by decide +kernel : decode (mB 50) 7 = .ok (.istore 4, 2)) (Nat.le_add_left 5 l.length)
theorem t50_9 : rn 50 9 (a0 :: a1 :: a2 :: a3 :: some (.int x) :: l) r M = rn 50 11 (a0 :: a1 :: a2 :: a3 :: some (.int x) :: l) (.int x :: r) M := r_iload (by decide +kernel : decode (mB 50) 9 = .ok (.iload 4, 2)) rfl
theorem t50_11 : rn 50 11 ls (.int x :: r) M = if ¬ x = 0 then rn 50 28 ls r M else rn 50 14 ls r M := r_if (o := 17) (r := r) (c := ¬ x = 0) (by decide +kernel : decode (mB 50) 11 = .ok (.ifCond .ne 17, 3)) rfl (by decide) rfl
theorem t50_14 : rn 50 14 (a0 :: a1 :: some (.int x) :: l) r M = rn 50 15 (a0 :: a1 :: some (.int x) :: l) (.int x :: r) M := r_iload_n (by decide +kernel : decode (mB 50) 14 = .ok (.iload_n 2, 1)) rfl
theorem t50_15 : rn 50 15 ls [.int x] M = cbn (cl 19 [.int x] M) 50 18 ls [] := r_callS (kd := 3) (by decide +kernel : decode (mB 50) 15 = .ok (.invokestatic 41, 3)) (by decide +kernel) (by decide +kernel) ((doS_n np_19).trans rfl)
theorem t50_18 : rn 50 18 ls (.int x :: r) M = if x = 0 then rn 50 28 ls r M else rn 50 21 ls r M := r_if (o := 10) (r := r) (c := x = 0) (by decide +kernel : decode (mB 50) 18 = .ok (.ifCond .eq 10, 3)) rfl (by decide) rfl
theorem t50_21 : rn 50 21 (some (.ref a) :: l) r M = rn 50 22 (some (.ref a) :: l) (.ref a :: r) M := r_aload_n (by decide +kernel : decode (mB 50) 21 = .ok (.aload_n 0, 1)) rfl
theorem t50_22 : rn 50 22 (a0 :: some (.int x) :: l) r M = rn 50 23 (a0 :: some (.int x) :: l) (.int x :: r) M := r_iload_n (by decide +kernel : decode (mB 50) 22 = .ok (.iload_n 1, 1)) rfl
theorem t50_23 : rn 50 23 (a0 :: a1 :: some (.int x) :: l) r M = rn 50 24 (a0 :: a1 :: some (.int x) :: l) (.int x :: r) M := r_iload_n (by decide +kernel : decode (mB 50) 23 = .ok (.iload_n 2, 1)) rfl
theorem t50_24 : rn 50 24 (a0 :: a1 :: a2 :: some (.int x) :: l) r M = rn 50 25 (a0 :: a1 :: a2 :: some (.int x) :: l) (.int x :: r) M := r_iload_n (by decide +kernel : decode (mB 50) 24 = .ok (.iload_n 3, 1)) rfl
theorem t50_25 : rn 50 25 ls [.int x, .int y, .int z, .ref a] M = if mK M a = (14, 0) then cbn (cl 55 [.ref a, .int z, .int y, .int x] M) 50 28 ls [] else none := r_callV (kd := 0) (by decide +kernel : decode (mB 50) 25 = .ok (.invokevirtual 44, 3)) (by decide +kernel) ((doV_n np_55).trans rfl)
theorem t50_28 : rn 50 28 (a0 :: a1 :: a2 :: a3 :: some (.int x) :: l) r M = rn 50 30 (a0 :: a1 :: a2 :: a3 :: some (.int x) :: l) (.int x :: r) M := r_iload (by decide +kernel : decode (mB 50) 28 = .ok (.iload 4, 2)) rfl
theorem t50_30 : rn 50 30 ls [.int x] M = some (some (.int x), M) := r_ireturn (by decide +kernel : decode (mB 50) 30 = .ok (.ireturn, 1)) rfl
-- 51 Tree_refusal(III)I
theorem t51_0 : rn 51 0 (a0 :: some (.int x) :: l) r M = rn 51 1 (a0 :: some (.int x) :: l) (.int x :: r) M := r_iload_n (by decide +kernel : decode (mB 51) 0 = .ok (.iload_n 1, 1)) rfl
theorem t51_1 : rn 51 1 ls (.int x :: r) M = if ¬ x = 0 then rn 51 14 ls r M else rn 51 4 ls r M := r_if (o := 13) (r := r) (c := ¬ x = 0) (by decide +kernel : decode (mB 51) 1 = .ok (.ifCond .ne 13, 3)) rfl (by decide) rfl
theorem t51_4 : rn 51 4 (some (.ref a) :: l) r M = rn 51 5 (some (.ref a) :: l) (.ref a :: r) M := r_aload_n (by decide +kernel : decode (mB 51) 4 = .ok (.aload_n 0, 1)) rfl
theorem t51_5 : rn 51 5 (a0 :: a1 :: some (.int x) :: l) r M = rn 51 6 (a0 :: a1 :: some (.int x) :: l) (.int x :: r) M := r_iload_n (by decide +kernel : decode (mB 51) 5 = .ok (.iload_n 2, 1)) rfl
theorem t51_6 : rn 51 6 ls [.int x, .ref a] M = if mK M a = (14, 0) then cbn (cl 52 [.ref a, .int x] M) 51 9 ls [] else none := r_callV (kd := 0) (by decide +kernel : decode (mB 51) 6 = .ok (.invokevirtual 33, 3)) (by decide +kernel) ((doV_n np_52).trans rfl)
theorem t51_9 : rn 51 9 ls (.int x :: r) M = if x = 0 then rn 51 14 ls r M else rn 51 12 ls r M := r_if (o := 5) (r := r) (c := x = 0) (by decide +kernel : decode (mB 51) 9 = .ok (.ifCond .eq 5, 3)) rfl (by decide) rfl
theorem t51_12 : rn 51 12 ls r M = rn 51 13 ls (.int 1 :: r) M := r_nx (by decide +kernel : decode (mB 51) 12 = .ok (.iconst 1, 1)) rfl rfl
theorem t51_13 : rn 51 13 ls [.int x] M = some (some (.int x), M) := r_ireturn (by decide +kernel : decode (mB 51) 13 = .ok (.ireturn, 1)) rfl
theorem t51_14 : rn 51 14 (a0 :: some (.int x) :: l) r M = rn 51 15 (a0 :: some (.int x) :: l) (.int x :: r) M := r_iload_n (by decide +kernel : decode (mB 51) 14 = .ok (.iload_n 1, 1)) rfl
theorem t51_15 : rn 51 15 ls (.int x :: r) M = if x = 0 then rn 51 28 ls r M else rn 51 18 ls r M := r_if (o := 13) (r := r) (c := x = 0) (by decide +kernel : decode (mB 51) 15 = .ok (.ifCond .eq 13, 3)) rfl (by decide) rfl
theorem t51_18 : rn 51 18 (some (.ref a) :: l) r M = rn 51 19 (some (.ref a) :: l) (.ref a :: r) M := r_aload_n (by decide +kernel : decode (mB 51) 18 = .ok (.aload_n 0, 1)) rfl
theorem t51_19 : rn 51 19 (a0 :: a1 :: some (.int x) :: l) r M = rn 51 20 (a0 :: a1 :: some (.int x) :: l) (.int x :: r) M := r_iload_n (by decide +kernel : decode (mB 51) 19 = .ok (.iload_n 2, 1)) rfl
theorem t51_20 : rn 51 20 ls [.int x, .ref a] M = if mK M a = (14, 0) then cbn (cl 52 [.ref a, .int x] M) 51 23 ls [] else none := r_callV (kd := 0) (by decide +kernel : decode (mB 51) 20 = .ok (.invokevirtual 33, 3)) (by decide +kernel) ((doV_n np_52).trans rfl)
theorem t51_23 : rn 51 23 ls (.int x :: r) M = if ¬ x = 0 then rn 51 28 ls r M else rn 51 26 ls r M := r_if (o := 5) (r := r) (c := ¬ x = 0) (by decide +kernel : decode (mB 51) 23 = .ok (.ifCond .ne 5, 3)) rfl (by decide) rfl
theorem t51_26 : rn 51 26 ls r M = rn 51 27 ls (.int 2 :: r) M := r_nx (by decide +kernel : decode (mB 51) 26 = .ok (.iconst 2, 1)) rfl rfl
theorem t51_27 : rn 51 27 ls [.int x] M = some (some (.int x), M) := r_ireturn (by decide +kernel : decode (mB 51) 27 = .ok (.ireturn, 1)) rfl
theorem t51_28 : rn 51 28 (a0 :: some (.int x) :: l) r M = rn 51 29 (a0 :: some (.int x) :: l) (.int x :: r) M := r_iload_n (by decide +kernel : decode (mB 51) 28 = .ok (.iload_n 1, 1)) rfl
theorem t51_29 : rn 51 29 ls [.int x] M = cbn (cl 20 [.int x] M) 51 32 ls [] := r_callS (kd := 3) (by decide +kernel : decode (mB 51) 29 = .ok (.invokestatic 48, 3)) (by decide +kernel) (by decide +kernel) ((doS_n np_20).trans rfl)
theorem t51_32 : rn 51 32 ls (.int x :: r) M = if x = 0 then rn 51 45 ls r M else rn 51 35 ls r M := r_if (o := 13) (r := r) (c := x = 0) (by decide +kernel : decode (mB 51) 32 = .ok (.ifCond .eq 13, 3)) rfl (by decide) rfl
theorem t51_35 : rn 51 35 (some (.ref a) :: l) r M = rn 51 36 (some (.ref a) :: l) (.ref a :: r) M := r_aload_n (by decide +kernel : decode (mB 51) 35 = .ok (.aload_n 0, 1)) rfl
theorem t51_36 : rn 51 36 (a0 :: a1 :: a2 :: some (.int x) :: l) r M = rn 51 37 (a0 :: a1 :: a2 :: some (.int x) :: l) (.int x :: r) M := r_iload_n (by decide +kernel : decode (mB 51) 36 = .ok (.iload_n 3, 1)) rfl
theorem t51_37 : rn 51 37 ls [.int x, .ref a] M = if mK M a = (14, 0) then cbn (cl 52 [.ref a, .int x] M) 51 40 ls [] else none := r_callV (kd := 0) (by decide +kernel : decode (mB 51) 37 = .ok (.invokevirtual 33, 3)) (by decide +kernel) ((doV_n np_52).trans rfl)
theorem t51_40 : rn 51 40 ls (.int x :: r) M = if ¬ x = 0 then rn 51 45 ls r M else rn 51 43 ls r M := r_if (o := 5) (r := r) (c := ¬ x = 0) (by decide +kernel : decode (mB 51) 40 = .ok (.ifCond .ne 5, 3)) rfl (by decide) rfl
theorem t51_43 : rn 51 43 ls r M = rn 51 44 ls (.int 3 :: r) M := r_nx (by decide +kernel : decode (mB 51) 43 = .ok (.iconst 3, 1)) rfl rfl
theorem t51_44 : rn 51 44 ls [.int x] M = some (some (.int x), M) := r_ireturn (by decide +kernel : decode (mB 51) 44 = .ok (.ireturn, 1)) rfl
theorem t51_45 : rn 51 45 (a0 :: some (.int x) :: l) r M = rn 51 46 (a0 :: some (.int x) :: l) (.int x :: r) M := r_iload_n (by decide +kernel : decode (mB 51) 45 = .ok (.iload_n 1, 1)) rfl
theorem t51_46 : rn 51 46 ls r M = rn 51 47 ls (.int 2 :: r) M := r_nx (by decide +kernel : decode (mB 51) 46 = .ok (.iconst 2, 1)) rfl rfl
theorem t51_47 : rn 51 47 ls (.int y :: .int x :: r) M = if ¬ x = y then rn 51 61 ls r M else rn 51 50 ls r M := r_if (o := 14) (r := r) (c := ¬ x = y) (by decide +kernel : decode (mB 51) 47 = .ok (.if_icmp .ne 14, 3)) rfl (by decide) rfl
theorem t51_50 : rn 51 50 (some (.ref a) :: l) r M = rn 51 51 (some (.ref a) :: l) (.ref a :: r) M := r_aload_n (by decide +kernel : decode (mB 51) 50 = .ok (.aload_n 0, 1)) rfl
theorem t51_51 : rn 51 51 (a0 :: a1 :: a2 :: some (.int x) :: l) r M = rn 51 52 (a0 :: a1 :: a2 :: some (.int x) :: l) (.int x :: r) M := r_iload_n (by decide +kernel : decode (mB 51) 51 = .ok (.iload_n 3, 1)) rfl
theorem t51_52 : rn 51 52 (a0 :: a1 :: some (.int x) :: l) r M = rn 51 53 (a0 :: a1 :: some (.int x) :: l) (.int x :: r) M := r_iload_n (by decide +kernel : decode (mB 51) 52 = .ok (.iload_n 2, 1)) rfl
theorem t51_53 : rn 51 53 ls [.int x, .int y, .ref a] M = if mK M a = (14, 0) then cbn (cl 53 [.ref a, .int y, .int x] M) 51 56 ls [] else none := r_callV (kd := 0) (by decide +kernel : decode (mB 51) 53 = .ok (.invokevirtual 51, 3)) (by decide +kernel) ((doV_n np_53).trans rfl)
theorem t51_56 : rn 51 56 ls (.int x :: r) M = if x = 0 then rn 51 61 ls r M else rn 51 59 ls r M := r_if (o := 5) (r := r) (c := x = 0) (by decide +kernel : decode (mB 51) 56 = .ok (.ifCond .eq 5, 3)) rfl (by decide) rfl
theorem t51_59 : rn 51 59 ls r M = rn 51 60 ls (.int 4 :: r) M := r_nx (by decide +kernel : decode (mB 51) 59 = .ok (.iconst 4, 1)) rfl rfl
theorem t51_60 : rn 51 60 ls [.int x] M = some (some (.int x), M) := r_ireturn (by decide +kernel : decode (mB 51) 60 = .ok (.ireturn, 1)) rfl
theorem t51_61 : rn 51 61 (a0 :: some (.int x) :: l) r M = rn 51 62 (a0 :: some (.int x) :: l) (.int x :: r) M := r_iload_n (by decide +kernel : decode (mB 51) 61 = .ok (.iload_n 1, 1)) rfl
theorem t51_62 : rn 51 62 ls r M = rn 51 63 ls (.int 3 :: r) M := r_nx (by decide +kernel : decode (mB 51) 62 = .ok (.iconst 3, 1)) rfl rfl
theorem t51_63 : rn 51 63 ls (.int y :: .int x :: r) M = if ¬ x = y then rn 51 76 ls r M else rn 51 66 ls r M := r_if (o := 13) (r := r) (c := ¬ x = y) (by decide +kernel : decode (mB 51) 63 = .ok (.if_icmp .ne 13, 3)) rfl (by decide) rfl
theorem t51_66 : rn 51 66 (some (.ref a) :: l) r M = rn 51 67 (some (.ref a) :: l) (.ref a :: r) M := r_aload_n (by decide +kernel : decode (mB 51) 66 = .ok (.aload_n 0, 1)) rfl
theorem t51_67 : rn 51 67 (a0 :: a1 :: some (.int x) :: l) r M = rn 51 68 (a0 :: a1 :: some (.int x) :: l) (.int x :: r) M := r_iload_n (by decide +kernel : decode (mB 51) 67 = .ok (.iload_n 2, 1)) rfl
theorem t51_68 : rn 51 68 ls [.int x, .ref a] M = if mK M a = (14, 0) then cbn (cl 54 [.ref a, .int x] M) 51 71 ls [] else none := r_callV (kd := 0) (by decide +kernel : decode (mB 51) 68 = .ok (.invokevirtual 55, 3)) (by decide +kernel) ((doV_n np_54).trans rfl)
theorem t51_71 : rn 51 71 ls (.int x :: r) M = if x = 0 then rn 51 76 ls r M else rn 51 74 ls r M := r_if (o := 5) (r := r) (c := x = 0) (by decide +kernel : decode (mB 51) 71 = .ok (.ifCond .eq 5, 3)) rfl (by decide) rfl
theorem t51_74 : rn 51 74 ls r M = rn 51 75 ls (.int 5 :: r) M := r_nx (by decide +kernel : decode (mB 51) 74 = .ok (.iconst 5, 1)) rfl rfl
theorem t51_75 : rn 51 75 ls [.int x] M = some (some (.int x), M) := r_ireturn (by decide +kernel : decode (mB 51) 75 = .ok (.ireturn, 1)) rfl
theorem t51_76 : rn 51 76 ls r M = rn 51 77 ls (.int 0 :: r) M := r_nx (by decide +kernel : decode (mB 51) 76 = .ok (.iconst 0, 1)) rfl rfl
theorem t51_77 : rn 51 77 ls [.int x] M = some (some (.int x), M) := r_ireturn (by decide +kernel : decode (mB 51) 77 = .ok (.ireturn, 1)) rfl
-- 52 Tree_has(I)Z
theorem t52_0 : rn 52 0 (a0 :: some (.int x) :: l) r M = rn 52 1 (a0 :: some (.int x) :: l) (.int x :: r) M := r_iload_n (by decide +kernel : decode (mB 52) 0 = .ok (.iload_n 1, 1)) rfl
theorem t52_1 : rn 52 1 ls (.int x :: r) M = if x < 0 then rn 52 25 ls r M else rn 52 4 ls r M := r_if (o := 24) (r := r) (c := x < 0) (by decide +kernel : decode (mB 52) 1 = .ok (.ifCond .lt 24, 3)) rfl (by decide) rfl
theorem t52_4 : rn 52 4 (a0 :: some (.int x) :: l) r M = rn 52 5 (a0 :: some (.int x) :: l) (.int x :: r) M := r_iload_n (by decide +kernel : decode (mB 52) 4 = .ok (.iload_n 1, 1)) rfl
theorem t52_5 : rn 52 5 ls r M = rn 52 7 ls (.int 16 :: r) M := r_nx (by decide +kernel : decode (mB 52) 5 = .ok (.bipush 16, 2)) rfl rfl
theorem t52_7 : rn 52 7 ls (.int y :: .int x :: r) M = if y ≤ x then rn 52 25 ls r M else rn 52 10 ls r M := r_if (o := 18) (r := r) (c := y ≤ x) (by decide +kernel : decode (mB 52) 7 = .ok (.if_icmp .ge 18, 3)) rfl (by decide) rfl
theorem t52_10 : rn 52 10 (some (.ref a) :: l) r M = rn 52 11 (some (.ref a) :: l) (.ref a :: r) M := r_aload_n (by decide +kernel : decode (mB 52) 10 = .ok (.aload_n 0, 1)) rfl
theorem t52_11 : rn 52 11 ls (.ref a :: r) M = if mK M a = (14, 0) then rn 52 14 ls (va_rf (mP M a 1) :: r) M else none := r_getP (ci := 4) (k := 1) (by decide +kernel : decode (mB 52) 11 = .ok (.getfield 15, 3)) (by decide +kernel) rfl
theorem t52_14 : rn 52 14 (a0 :: some (.int x) :: l) r M = rn 52 15 (a0 :: some (.int x) :: l) (.int x :: r) M := r_iload_n (by decide +kernel : decode (mB 52) 14 = .ok (.iload_n 1, 1)) rfl
theorem t52_15 : rn 52 15 ls (.int x :: .ref a :: r) M = if ((mK M a).1 = 1 ∨ (mK M a).1 = 5) ∧ inR x (mK M a).2 then rn 52 16 ls (.int (mI M a x.toNatClampNeg) :: r) M else none := r_cnd (by decide +kernel : decode (mB 52) 15 = .ok (.iaload, 1)) rfl rfl
theorem t52_16 : rn 52 16 ls r M = rn 52 18 ls (.int (-6) :: r) M := r_nx (by decide +kernel : decode (mB 52) 16 = .ok (.bipush (-6), 2)) rfl rfl
theorem t52_18 : rn 52 18 ls (.int y :: .int x :: r) M = if x = y then rn 52 25 ls r M else rn 52 21 ls r M := r_if (o := 7) (r := r) (c := x = y) (by decide +kernel : decode (mB 52) 18 = .ok (.if_icmp .eq 7, 3)) rfl (by decide) rfl
theorem t52_21 : rn 52 21 ls r M = rn 52 22 ls (.int 1 :: r) M := r_nx (by decide +kernel : decode (mB 52) 21 = .ok (.iconst 1, 1)) rfl rfl
theorem t52_22 : rn 52 22 ls r M = rn 52 26 ls r M := r_goto (o := 4) (by decide +kernel : decode (mB 52) 22 = .ok (.goto 4, 3)) (by decide)
theorem t52_25 : rn 52 25 ls r M = rn 52 26 ls (.int 0 :: r) M := r_nx (by decide +kernel : decode (mB 52) 25 = .ok (.iconst 0, 1)) rfl rfl
theorem t52_26 : rn 52 26 ls [.int x] M = if x = 0 ∨ x = 1 then some (some (.int x), M) else none := r_zreturn (by decide +kernel : decode (mB 52) 26 = .ok (.ireturn, 1)) rfl
-- 53 Tree_isOrLiesIn(II)Z
theorem t53_0 : rn 53 0 (a0 :: some (.int x) :: l) r M = rn 53 1 (a0 :: some (.int x) :: l) (.int x :: r) M := r_iload_n (by decide +kernel : decode (mB 53) 0 = .ok (.iload_n 1, 1)) rfl
theorem t53_1 : rn 53 1 (a0 :: a1 :: a2 :: a3 :: l) (.int x :: r) M = rn 53 2 (a0 :: a1 :: a2 :: some (.int x) :: l) r M := r_istore_n (by decide +kernel : decode (mB 53) 1 = .ok (.istore_n 3, 1)) (Nat.le_add_left 4 l.length)
theorem t53_2 : rn 53 2 ls r M = rn 53 3 ls (.int 0 :: r) M := r_nx (by decide +kernel : decode (mB 53) 2 = .ok (.iconst 0, 1)) rfl rfl
theorem t53_3 : rn 53 3 (a0 :: a1 :: a2 :: a3 :: a4 :: l) (.int x :: r) M = rn 53 5 (a0 :: a1 :: a2 :: a3 :: some (.int x) :: l) r M := r_istore (by decide +kernel : decode (mB 53) 3 = .ok (.istore 4, 2)) (Nat.le_add_left 5 l.length)
theorem t53_5 : rn 53 5 (a0 :: a1 :: a2 :: a3 :: some (.int x) :: l) r M = rn 53 7 (a0 :: a1 :: a2 :: a3 :: some (.int x) :: l) (.int x :: r) M := r_iload (by decide +kernel : decode (mB 53) 5 = .ok (.iload 4, 2)) rfl
theorem t53_7 : rn 53 7 ls r M = rn 53 9 ls (.int 16 :: r) M := r_nx (by decide +kernel : decode (mB 53) 7 = .ok (.bipush 16, 2)) rfl rfl
theorem t53_9 : rn 53 9 ls (.int y :: .int x :: r) M = if y ≤ x then rn 53 39 ls r M else rn 53 12 ls r M := r_if (o := 30) (r := r) (c := y ≤ x) (by decide +kernel : decode (mB 53) 9 = .ok (.if_icmp .ge 30, 3)) rfl (by decide) rfl
theorem t53_12 : rn 53 12 (a0 :: a1 :: a2 :: some (.int x) :: l) r M = rn 53 13 (a0 :: a1 :: a2 :: some (.int x) :: l) (.int x :: r) M := r_iload_n (by decide +kernel : decode (mB 53) 12 = .ok (.iload_n 3, 1)) rfl
theorem t53_13 : rn 53 13 ls [.int x] M = cbn (cl 19 [.int x] M) 53 16 ls [] := r_callS (kd := 3) (by decide +kernel : decode (mB 53) 13 = .ok (.invokestatic 41, 3)) (by decide +kernel) (by decide +kernel) ((doS_n np_19).trans rfl)
theorem t53_16 : rn 53 16 ls (.int x :: r) M = if x = 0 then rn 53 39 ls r M else rn 53 19 ls r M := r_if (o := 23) (r := r) (c := x = 0) (by decide +kernel : decode (mB 53) 16 = .ok (.ifCond .eq 23, 3)) rfl (by decide) rfl
theorem t53_19 : rn 53 19 (a0 :: a1 :: a2 :: some (.int x) :: l) r M = rn 53 20 (a0 :: a1 :: a2 :: some (.int x) :: l) (.int x :: r) M := r_iload_n (by decide +kernel : decode (mB 53) 19 = .ok (.iload_n 3, 1)) rfl
theorem t53_20 : rn 53 20 (a0 :: a1 :: some (.int x) :: l) r M = rn 53 21 (a0 :: a1 :: some (.int x) :: l) (.int x :: r) M := r_iload_n (by decide +kernel : decode (mB 53) 20 = .ok (.iload_n 2, 1)) rfl
theorem t53_21 : rn 53 21 ls (.int y :: .int x :: r) M = if ¬ x = y then rn 53 26 ls r M else rn 53 24 ls r M := r_if (o := 5) (r := r) (c := ¬ x = y) (by decide +kernel : decode (mB 53) 21 = .ok (.if_icmp .ne 5, 3)) rfl (by decide) rfl
theorem t53_24 : rn 53 24 ls r M = rn 53 25 ls (.int 1 :: r) M := r_nx (by decide +kernel : decode (mB 53) 24 = .ok (.iconst 1, 1)) rfl rfl
theorem t53_25 : rn 53 25 ls [.int x] M = if x = 0 ∨ x = 1 then some (some (.int x), M) else none := r_zreturn (by decide +kernel : decode (mB 53) 25 = .ok (.ireturn, 1)) rfl
theorem t53_26 : rn 53 26 (some (.ref a) :: l) r M = rn 53 27 (some (.ref a) :: l) (.ref a :: r) M := r_aload_n (by decide +kernel : decode (mB 53) 26 = .ok (.aload_n 0, 1)) rfl
theorem t53_27 : rn 53 27 ls (.ref a :: r) M = if mK M a = (14, 0) then rn 53 30 ls (va_rf (mP M a 0) :: r) M else none := r_getP (ci := 4) (k := 0) (by decide +kernel : decode (mB 53) 27 = .ok (.getfield 9, 3)) (by decide +kernel) rfl
theorem t53_30 : rn 53 30 (a0 :: a1 :: a2 :: some (.int x) :: l) r M = rn 53 31 (a0 :: a1 :: a2 :: some (.int x) :: l) (.int x :: r) M := r_iload_n (by decide +kernel : decode (mB 53) 30 = .ok (.iload_n 3, 1)) rfl
theorem t53_31 : rn 53 31 ls (.int x :: .ref a :: r) M = if ((mK M a).1 = 1 ∨ (mK M a).1 = 5) ∧ inR x (mK M a).2 then rn 53 32 ls (.int (mI M a x.toNatClampNeg) :: r) M else none := r_cnd (by decide +kernel : decode (mB 53) 31 = .ok (.iaload, 1)) rfl rfl
theorem t53_32 : rn 53 32 (a0 :: a1 :: a2 :: a3 :: l) (.int x :: r) M = rn 53 33 (a0 :: a1 :: a2 :: some (.int x) :: l) r M := r_istore_n (by decide +kernel : decode (mB 53) 32 = .ok (.istore_n 3, 1)) (Nat.le_add_left 4 l.length)
theorem t53_33 : rn 53 33 (a0 :: a1 :: a2 :: a3 :: some (.int x) :: l) r M = rn 53 36 (a0 :: a1 :: a2 :: a3 :: some (.int (x + 1)) :: l) r M := r_iinc (by decide +kernel : decode (mB 53) 33 = .ok (.iinc 4 1, 3)) rfl
theorem t53_36 : rn 53 36 ls r M = rn 53 5 ls r M := r_goto (o := (-31)) (by decide +kernel : decode (mB 53) 36 = .ok (.goto (-31), 3)) (by decide)
theorem t53_39 : rn 53 39 ls r M = rn 53 40 ls (.int 0 :: r) M := r_nx (by decide +kernel : decode (mB 53) 39 = .ok (.iconst 0, 1)) rfl rfl
theorem t53_40 : rn 53 40 ls [.int x] M = if x = 0 ∨ x = 1 then some (some (.int x), M) else none := r_zreturn (by decide +kernel : decode (mB 53) 40 = .ok (.ireturn, 1)) rfl
-- 54 Tree_filesIn(I)I
theorem t54_0 : rn 54 0 ls r M = rn 54 1 ls (.int 0 :: r) M := r_nx (by decide +kernel : decode (mB 54) 0 = .ok (.iconst 0, 1)) rfl rfl
theorem t54_1 : rn 54 1 (a0 :: a1 :: a2 :: l) (.int x :: r) M = rn 54 2 (a0 :: a1 :: some (.int x) :: l) r M := r_istore_n (by decide +kernel : decode (mB 54) 1 = .ok (.istore_n 2, 1)) (Nat.le_add_left 3 l.length)
theorem t54_2 : rn 54 2 ls r M = rn 54 3 ls (.int 0 :: r) M := r_nx (by decide +kernel : decode (mB 54) 2 = .ok (.iconst 0, 1)) rfl rfl
theorem t54_3 : rn 54 3 (a0 :: a1 :: a2 :: a3 :: l) (.int x :: r) M = rn 54 4 (a0 :: a1 :: a2 :: some (.int x) :: l) r M := r_istore_n (by decide +kernel : decode (mB 54) 3 = .ok (.istore_n 3, 1)) (Nat.le_add_left 4 l.length)
theorem t54_4 : rn 54 4 (a0 :: a1 :: a2 :: some (.int x) :: l) r M = rn 54 5 (a0 :: a1 :: a2 :: some (.int x) :: l) (.int x :: r) M := r_iload_n (by decide +kernel : decode (mB 54) 4 = .ok (.iload_n 3, 1)) rfl
theorem t54_5 : rn 54 5 ls r M = rn 54 7 ls (.int 16 :: r) M := r_nx (by decide +kernel : decode (mB 54) 5 = .ok (.bipush 16, 2)) rfl rfl
theorem t54_7 : rn 54 7 ls (.int y :: .int x :: r) M = if y ≤ x then rn 54 32 ls r M else rn 54 10 ls r M := r_if (o := 25) (r := r) (c := y ≤ x) (by decide +kernel : decode (mB 54) 7 = .ok (.if_icmp .ge 25, 3)) rfl (by decide) rfl
theorem t54_10 : rn 54 10 (some (.ref a) :: l) r M = rn 54 11 (some (.ref a) :: l) (.ref a :: r) M := r_aload_n (by decide +kernel : decode (mB 54) 10 = .ok (.aload_n 0, 1)) rfl
theorem t54_11 : rn 54 11 ls (.ref a :: r) M = if mK M a = (14, 0) then rn 54 14 ls (va_rf (mP M a 0) :: r) M else none := r_getP (ci := 4) (k := 0) (by decide +kernel : decode (mB 54) 11 = .ok (.getfield 9, 3)) (by decide +kernel) rfl
theorem t54_14 : rn 54 14 (a0 :: a1 :: a2 :: some (.int x) :: l) r M = rn 54 15 (a0 :: a1 :: a2 :: some (.int x) :: l) (.int x :: r) M := r_iload_n (by decide +kernel : decode (mB 54) 14 = .ok (.iload_n 3, 1)) rfl
theorem t54_15 : rn 54 15 ls (.int x :: .ref a :: r) M = if ((mK M a).1 = 1 ∨ (mK M a).1 = 5) ∧ inR x (mK M a).2 then rn 54 16 ls (.int (mI M a x.toNatClampNeg) :: r) M else none := r_cnd (by decide +kernel : decode (mB 54) 15 = .ok (.iaload, 1)) rfl rfl
theorem t54_16 : rn 54 16 (a0 :: some (.int x) :: l) r M = rn 54 17 (a0 :: some (.int x) :: l) (.int x :: r) M := r_iload_n (by decide +kernel : decode (mB 54) 16 = .ok (.iload_n 1, 1)) rfl
theorem t54_17 : rn 54 17 ls (.int y :: .int x :: r) M = if ¬ x = y then rn 54 26 ls r M else rn 54 20 ls r M := r_if (o := 9) (r := r) (c := ¬ x = y) (by decide +kernel : decode (mB 54) 17 = .ok (.if_icmp .ne 9, 3)) rfl (by decide) rfl
theorem t54_20 : rn 54 20 (a0 :: a1 :: some (.int x) :: l) r M = rn 54 21 (a0 :: a1 :: some (.int x) :: l) (.int x :: r) M := r_iload_n (by decide +kernel : decode (mB 54) 20 = .ok (.iload_n 2, 1)) rfl
theorem t54_21 : rn 54 21 ls r M = rn 54 22 ls (.int 1 :: r) M := r_nx (by decide +kernel : decode (mB 54) 21 = .ok (.iconst 1, 1)) rfl rfl
theorem t54_22 : rn 54 22 (a0 :: a1 :: a2 :: some (.int x) :: l) r M = rn 54 23 (a0 :: a1 :: a2 :: some (.int x) :: l) (.int x :: r) M := r_iload_n (by decide +kernel : decode (mB 54) 22 = .ok (.iload_n 3, 1)) rfl
theorem t54_23 : rn 54 23 ls (.int y :: .int x :: r) M = rn 54 24 ls (.int (x <<< (y &&& 31)) :: r) M := r_nx (by decide +kernel : decode (mB 54) 23 = .ok (.ishl, 1)) rfl rfl
theorem t54_24 : rn 54 24 ls (.int y :: .int x :: r) M = rn 54 25 ls (.int (x ||| y) :: r) M := r_nx (by decide +kernel : decode (mB 54) 24 = .ok (.ior, 1)) rfl rfl
theorem t54_25 : rn 54 25 (a0 :: a1 :: a2 :: l) (.int x :: r) M = rn 54 26 (a0 :: a1 :: some (.int x) :: l) r M := r_istore_n (by decide +kernel : decode (mB 54) 25 = .ok (.istore_n 2, 1)) (Nat.le_add_left 3 l.length)
theorem t54_26 : rn 54 26 (a0 :: a1 :: a2 :: some (.int x) :: l) r M = rn 54 29 (a0 :: a1 :: a2 :: some (.int (x + 1)) :: l) r M := r_iinc (by decide +kernel : decode (mB 54) 26 = .ok (.iinc 3 1, 3)) rfl
theorem t54_29 : rn 54 29 ls r M = rn 54 4 ls r M := r_goto (o := (-25)) (by decide +kernel : decode (mB 54) 29 = .ok (.goto (-25), 3)) (by decide)
theorem t54_32 : rn 54 32 (a0 :: a1 :: some (.int x) :: l) r M = rn 54 33 (a0 :: a1 :: some (.int x) :: l) (.int x :: r) M := r_iload_n (by decide +kernel : decode (mB 54) 32 = .ok (.iload_n 2, 1)) rfl
theorem t54_33 : rn 54 33 ls [.int x] M = some (some (.int x), M) := r_ireturn (by decide +kernel : decode (mB 54) 33 = .ok (.ireturn, 1)) rfl
-- 55 Tree_carry(III)V
theorem t55_0 : rn 55 0 (a0 :: some (.int x) :: l) r M = rn 55 1 (a0 :: some (.int x) :: l) (.int x :: r) M := r_iload_n (by decide +kernel : decode (mB 55) 0 = .ok (.iload_n 1, 1)) rfl
theorem t55_1 : rn 55 1 ls [.int x] M = cbn (cl 20 [.int x] M) 55 4 ls [] := r_callS (kd := 3) (by decide +kernel : decode (mB 55) 1 = .ok (.invokestatic 48, 3)) (by decide +kernel) (by decide +kernel) ((doS_n np_20).trans rfl)
theorem t55_4 : rn 55 4 ls (.int x :: r) M = if x = 0 then rn 55 14 ls r M else rn 55 7 ls r M := r_if (o := 10) (r := r) (c := x = 0) (by decide +kernel : decode (mB 55) 4 = .ok (.ifCond .eq 10, 3)) rfl (by decide) rfl
theorem t55_7 : rn 55 7 (some (.ref a) :: l) r M = rn 55 8 (some (.ref a) :: l) (.ref a :: r) M := r_aload_n (by decide +kernel : decode (mB 55) 7 = .ok (.aload_n 0, 1)) rfl
theorem t55_8 : rn 55 8 ls (.ref a :: r) M = if mK M a = (14, 0) then rn 55 11 ls (va_rf (mP M a 0) :: r) M else none := r_getP (ci := 4) (k := 0) (by decide +kernel : decode (mB 55) 8 = .ok (.getfield 9, 3)) (by decide +kernel) rfl
theorem t55_11 : rn 55 11 (a0 :: a1 :: some (.int x) :: l) r M = rn 55 12 (a0 :: a1 :: some (.int x) :: l) (.int x :: r) M := r_iload_n (by decide +kernel : decode (mB 55) 11 = .ok (.iload_n 2, 1)) rfl
theorem t55_12 : rn 55 12 (a0 :: a1 :: a2 :: some (.int x) :: l) r M = rn 55 13 (a0 :: a1 :: a2 :: some (.int x) :: l) (.int x :: r) M := r_iload_n (by decide +kernel : decode (mB 55) 12 = .ok (.iload_n 3, 1)) rfl
theorem t55_13 : rn 55 13 ls (.int y :: .int x :: .ref a :: r) M = if (mK M a).1 = 1 ∧ inR x (mK M a).2 then rn 55 14 ls r (sI M a (va_up (mI M a) x.toNatClampNeg y)) else none := r_cnd (by decide +kernel : decode (mB 55) 13 = .ok (.iastore, 1)) rfl rfl
theorem t55_14 : rn 55 14 (a0 :: some (.int x) :: l) r M = rn 55 15 (a0 :: some (.int x) :: l) (.int x :: r) M := r_iload_n (by decide +kernel : decode (mB 55) 14 = .ok (.iload_n 1, 1)) rfl
theorem t55_15 : rn 55 15 ls (.int x :: r) M = if ¬ x = 0 then rn 55 25 ls r M else rn 55 18 ls r M := r_if (o := 10) (r := r) (c := ¬ x = 0) (by decide +kernel : decode (mB 55) 15 = .ok (.ifCond .ne 10, 3)) rfl (by decide) rfl
theorem t55_18 : rn 55 18 (some (.ref a) :: l) r M = rn 55 19 (some (.ref a) :: l) (.ref a :: r) M := r_aload_n (by decide +kernel : decode (mB 55) 18 = .ok (.aload_n 0, 1)) rfl
theorem t55_19 : rn 55 19 ls (.ref a :: r) M = if mK M a = (14, 0) then rn 55 22 ls (va_rf (mP M a 1) :: r) M else none := r_getP (ci := 4) (k := 1) (by decide +kernel : decode (mB 55) 19 = .ok (.getfield 15, 3)) (by decide +kernel) rfl
theorem t55_22 : rn 55 22 (a0 :: a1 :: some (.int x) :: l) r M = rn 55 23 (a0 :: a1 :: some (.int x) :: l) (.int x :: r) M := r_iload_n (by decide +kernel : decode (mB 55) 22 = .ok (.iload_n 2, 1)) rfl
theorem t55_23 : rn 55 23 ls r M = rn 55 24 ls (.int 0 :: r) M := r_nx (by decide +kernel : decode (mB 55) 23 = .ok (.iconst 0, 1)) rfl rfl
theorem t55_24 : rn 55 24 ls (.int y :: .int x :: .ref a :: r) M = if (mK M a).1 = 1 ∧ inR x (mK M a).2 then rn 55 25 ls r (sI M a (va_up (mI M a) x.toNatClampNeg y)) else none := r_cnd (by decide +kernel : decode (mB 55) 24 = .ok (.iastore, 1)) rfl rfl
theorem t55_25 : rn 55 25 (a0 :: some (.int x) :: l) r M = rn 55 26 (a0 :: some (.int x) :: l) (.int x :: r) M := r_iload_n (by decide +kernel : decode (mB 55) 25 = .ok (.iload_n 1, 1)) rfl
theorem t55_26 : rn 55 26 ls r M = rn 55 27 ls (.int 1 :: r) M := r_nx (by decide +kernel : decode (mB 55) 26 = .ok (.iconst 1, 1)) rfl rfl
theorem t55_27 : rn 55 27 ls (.int y :: .int x :: r) M = if ¬ x = y then rn 55 37 ls r M else rn 55 30 ls r M := r_if (o := 10) (r := r) (c := ¬ x = y) (by decide +kernel : decode (mB 55) 27 = .ok (.if_icmp .ne 10, 3)) rfl (by decide) rfl
theorem t55_30 : rn 55 30 (some (.ref a) :: l) r M = rn 55 31 (some (.ref a) :: l) (.ref a :: r) M := r_aload_n (by decide +kernel : decode (mB 55) 30 = .ok (.aload_n 0, 1)) rfl
theorem t55_31 : rn 55 31 ls (.ref a :: r) M = if mK M a = (14, 0) then rn 55 34 ls (va_rf (mP M a 1) :: r) M else none := r_getP (ci := 4) (k := 1) (by decide +kernel : decode (mB 55) 31 = .ok (.getfield 15, 3)) (by decide +kernel) rfl
theorem t55_34 : rn 55 34 (a0 :: a1 :: some (.int x) :: l) r M = rn 55 35 (a0 :: a1 :: some (.int x) :: l) (.int x :: r) M := r_iload_n (by decide +kernel : decode (mB 55) 34 = .ok (.iload_n 2, 1)) rfl
theorem t55_35 : rn 55 35 (a0 :: a1 :: a2 :: some (.int x) :: l) r M = rn 55 36 (a0 :: a1 :: a2 :: some (.int x) :: l) (.int x :: r) M := r_iload_n (by decide +kernel : decode (mB 55) 35 = .ok (.iload_n 3, 1)) rfl
theorem t55_36 : rn 55 36 ls (.int y :: .int x :: .ref a :: r) M = if (mK M a).1 = 1 ∧ inR x (mK M a).2 then rn 55 37 ls r (sI M a (va_up (mI M a) x.toNatClampNeg y)) else none := r_cnd (by decide +kernel : decode (mB 55) 36 = .ok (.iastore, 1)) rfl rfl
theorem t55_37 : rn 55 37 (a0 :: some (.int x) :: l) r M = rn 55 38 (a0 :: some (.int x) :: l) (.int x :: r) M := r_iload_n (by decide +kernel : decode (mB 55) 37 = .ok (.iload_n 1, 1)) rfl
theorem t55_38 : rn 55 38 ls r M = rn 55 39 ls (.int 3 :: r) M := r_nx (by decide +kernel : decode (mB 55) 38 = .ok (.iconst 3, 1)) rfl rfl
theorem t55_39 : rn 55 39 ls (.int y :: .int x :: r) M = if ¬ x = y then rn 55 58 ls r M else rn 55 42 ls r M := r_if (o := 19) (r := r) (c := ¬ x = y) (by decide +kernel : decode (mB 55) 39 = .ok (.if_icmp .ne 19, 3)) rfl (by decide) rfl
theorem t55_42 : rn 55 42 (some (.ref a) :: l) r M = rn 55 43 (some (.ref a) :: l) (.ref a :: r) M := r_aload_n (by decide +kernel : decode (mB 55) 42 = .ok (.aload_n 0, 1)) rfl
theorem t55_43 : rn 55 43 ls (.ref a :: r) M = if mK M a = (14, 0) then rn 55 46 ls (va_rf (mP M a 0) :: r) M else none := r_getP (ci := 4) (k := 0) (by decide +kernel : decode (mB 55) 43 = .ok (.getfield 9, 3)) (by decide +kernel) rfl
theorem t55_46 : rn 55 46 (a0 :: a1 :: some (.int x) :: l) r M = rn 55 47 (a0 :: a1 :: some (.int x) :: l) (.int x :: r) M := r_iload_n (by decide +kernel : decode (mB 55) 46 = .ok (.iload_n 2, 1)) rfl
theorem t55_47 : rn 55 47 ls r M = rn 55 49 ls (.int (-6) :: r) M := r_nx (by decide +kernel : decode (mB 55) 47 = .ok (.bipush (-6), 2)) rfl rfl
theorem t55_49 : rn 55 49 ls (.int y :: .int x :: .ref a :: r) M = if (mK M a).1 = 1 ∧ inR x (mK M a).2 then rn 55 50 ls r (sI M a (va_up (mI M a) x.toNatClampNeg y)) else none := r_cnd (by decide +kernel : decode (mB 55) 49 = .ok (.iastore, 1)) rfl rfl
theorem t55_50 : rn 55 50 (some (.ref a) :: l) r M = rn 55 51 (some (.ref a) :: l) (.ref a :: r) M := r_aload_n (by decide +kernel : decode (mB 55) 50 = .ok (.aload_n 0, 1)) rfl
theorem t55_51 : rn 55 51 ls (.ref a :: r) M = if mK M a = (14, 0) then rn 55 54 ls (va_rf (mP M a 1) :: r) M else none := r_getP (ci := 4) (k := 1) (by decide +kernel : decode (mB 55) 51 = .ok (.getfield 15, 3)) (by decide +kernel) rfl
theorem t55_54 : rn 55 54 (a0 :: a1 :: some (.int x) :: l) r M = rn 55 55 (a0 :: a1 :: some (.int x) :: l) (.int x :: r) M := r_iload_n (by decide +kernel : decode (mB 55) 54 = .ok (.iload_n 2, 1)) rfl
theorem t55_55 : rn 55 55 ls r M = rn 55 57 ls (.int (-6) :: r) M := r_nx (by decide +kernel : decode (mB 55) 55 = .ok (.bipush (-6), 2)) rfl rfl
theorem t55_57 : rn 55 57 ls (.int y :: .int x :: .ref a :: r) M = if (mK M a).1 = 1 ∧ inR x (mK M a).2 then rn 55 58 ls r (sI M a (va_up (mI M a) x.toNatClampNeg y)) else none := r_cnd (by decide +kernel : decode (mB 55) 57 = .ok (.iastore, 1)) rfl rfl
theorem t55_58 : rn 55 58 ls [] M = some (none, M) := r_vreturn (by decide +kernel : decode (mB 55) 58 = .ok (.return_, 1)) rfl
-- 58 Replay_makeRounds(LDependentReplay$Log;)I
theorem t58_0 : rn 58 0 ls r M = rn 58 1 ls (.int 0 :: r) M := r_nx (by decide +kernel : decode (mB 58) 0 = .ok (.iconst 0, 1)) rfl rfl
theorem t58_1 : rn 58 1 (a0 :: a1 :: a2 :: l) (.int x :: r) M = rn 58 2 (a0 :: a1 :: some (.int x) :: l) r M := r_istore_n (by decide +kernel : decode (mB 58) 1 = .ok (.istore_n 2, 1)) (Nat.le_add_left 3 l.length)
theorem t58_2 : rn 58 2 (some (.ref a) :: l) r M = rn 58 3 (some (.ref a) :: l) (.ref a :: r) M := r_aload_n (by decide +kernel : decode (mB 58) 2 = .ok (.aload_n 0, 1)) rfl
theorem t58_3 : rn 58 3 (a0 :: some (.ref a) :: l) r M = rn 58 4 (a0 :: some (.ref a) :: l) (.ref a :: r) M := r_aload_n (by decide +kernel : decode (mB 58) 3 = .ok (.aload_n 1, 1)) rfl
theorem t58_4 : rn 58 4 ls [.ref a, .ref b] M = if mK M b = (13, 0) then cbn (cl 48 [.ref b, .ref a] M) 58 7 ls [] else none := r_callV (kd := 0) (by decide +kernel : decode (mB 58) 4 = .ok (.invokevirtual 81, 3)) (by decide +kernel) ((doV_n np_48).trans rfl)
theorem t58_7 : rn 58 7 (a0 :: a1 :: a2 :: a3 :: a4 :: l) (.long u :: r) M = rn 58 8 (a0 :: a1 :: a2 :: some (.long u) :: none :: l) r M := r_lstore_n (by decide +kernel : decode (mB 58) 7 = .ok (.lstore_n 3, 1)) (Nat.le_add_left 5 l.length)
theorem t58_8 : rn 58 8 (a0 :: a1 :: some (.int x) :: l) r M = rn 58 9 (a0 :: a1 :: some (.int x) :: l) (.int x :: r) M := r_iload_n (by decide +kernel : decode (mB 58) 8 = .ok (.iload_n 2, 1)) rfl
theorem t58_9 : rn 58 9 ls r M = rn 58 11 ls (.int 40 :: r) M := r_nx (by decide +kernel : decode (mB 58) 9 = .ok (.bipush 40, 2)) rfl rfl
theorem t58_11 : rn 58 11 ls (.int y :: .int x :: r) M = if y ≤ x then rn 58 39 ls r M else rn 58 14 ls r M := r_if (o := 28) (r := r) (c := y ≤ x) (by decide +kernel : decode (mB 58) 11 = .ok (.if_icmp .ge 28, 3)) rfl (by decide) rfl
theorem t58_14 : rn 58 14 (a0 :: a1 :: a2 :: some (.long u) :: none :: l) r M = rn 58 15 (a0 :: a1 :: a2 :: some (.long u) :: none :: l) (.long u :: r) M := r_lload_n (by decide +kernel : decode (mB 58) 14 = .ok (.lload_n 3, 1)) rfl rfl
theorem t58_15 : rn 58 15 ls r M = rn 58 16 ls (.long 0 :: r) M := r_nx (by decide +kernel : decode (mB 58) 15 = .ok (.lconst 0, 1)) rfl rfl
theorem t58_16 : rn 58 16 ls (.long v :: .long u :: r) M = rn 58 17 ls (.int (lg_cmp u v) :: r) M := r_nx (by decide +kernel : decode (mB 58) 16 = .ok (.lcmp, 1)) rfl rfl
theorem t58_17 : rn 58 17 ls (.int x :: r) M = if x = 0 then rn 58 39 ls r M else rn 58 20 ls r M := r_if (o := 22) (r := r) (c := x = 0) (by decide +kernel : decode (mB 58) 17 = .ok (.ifCond .eq 22, 3)) rfl (by decide) rfl
theorem t58_20 : rn 58 20 (some (.ref a) :: l) r M = rn 58 21 (some (.ref a) :: l) (.ref a :: r) M := r_aload_n (by decide +kernel : decode (mB 58) 20 = .ok (.aload_n 0, 1)) rfl
theorem t58_21 : rn 58 21 (a0 :: some (.ref a) :: l) r M = rn 58 22 (a0 :: some (.ref a) :: l) (.ref a :: r) M := r_aload_n (by decide +kernel : decode (mB 58) 21 = .ok (.aload_n 1, 1)) rfl
theorem t58_22 : rn 58 22 (a0 :: a1 :: a2 :: some (.long u) :: none :: l) r M = rn 58 23 (a0 :: a1 :: a2 :: some (.long u) :: none :: l) (.long u :: r) M := r_lload_n (by decide +kernel : decode (mB 58) 22 = .ok (.lload_n 3, 1)) rfl rfl
theorem t58_23 : rn 58 23 ls [.long u, .ref a, .ref b] M = if mK M b = (13, 0) then cbn (cl 49 [.ref b, .ref a, .long u] M) 58 26 ls [] else none := r_callV (kd := 0) (by decide +kernel : decode (mB 58) 23 = .ok (.invokevirtual 85, 3)) (by decide +kernel) ((doV_n np_49).trans rfl)
theorem t58_26 : rn 58 26 ls (.int x :: r) M = rn 58 27 ls r M := r_nx (by decide +kernel : decode (mB 58) 26 = .ok (.pop, 1)) rfl rfl
theorem t58_27 : rn 58 27 (a0 :: a1 :: some (.int x) :: l) r M = rn 58 30 (a0 :: a1 :: some (.int (x + 1)) :: l) r M := r_iinc (by decide +kernel : decode (mB 58) 27 = .ok (.iinc 2 1, 3)) rfl
theorem t58_30 : rn 58 30 (some (.ref a) :: l) r M = rn 58 31 (some (.ref a) :: l) (.ref a :: r) M := r_aload_n (by decide +kernel : decode (mB 58) 30 = .ok (.aload_n 0, 1)) rfl
theorem t58_31 : rn 58 31 (a0 :: some (.ref a) :: l) r M = rn 58 32 (a0 :: some (.ref a) :: l) (.ref a :: r) M := r_aload_n (by decide +kernel : decode (mB 58) 31 = .ok (.aload_n 1, 1)) rfl
theorem t58_32 : rn 58 32 ls [.ref a, .ref b] M = if mK M b = (13, 0) then cbn (cl 48 [.ref b, .ref a] M) 58 35 ls [] else none := r_callV (kd := 0) (by decide +kernel : decode (mB 58) 32 = .ok (.invokevirtual 81, 3)) (by decide +kernel) ((doV_n np_48).trans rfl)
theorem t58_35 : rn 58 35 (a0 :: a1 :: a2 :: a3 :: a4 :: l) (.long u :: r) M = rn 58 36 (a0 :: a1 :: a2 :: some (.long u) :: none :: l) r M := r_lstore_n (by decide +kernel : decode (mB 58) 35 = .ok (.lstore_n 3, 1)) (Nat.le_add_left 5 l.length)
theorem t58_36 : rn 58 36 ls r M = rn 58 8 ls r M := r_goto (o := (-28)) (by decide +kernel : decode (mB 58) 36 = .ok (.goto (-28), 3)) (by decide)
theorem t58_39 : rn 58 39 (a0 :: a1 :: some (.int x) :: l) r M = rn 58 40 (a0 :: a1 :: some (.int x) :: l) (.int x :: r) M := r_iload_n (by decide +kernel : decode (mB 58) 39 = .ok (.iload_n 2, 1)) rfl
theorem t58_40 : rn 58 40 ls [.int x] M = some (some (.int x), M) := r_ireturn (by decide +kernel : decode (mB 58) 40 = .ok (.ireturn, 1)) rfl
-- 71 Log_leaningOn(I)I
theorem t71_0 : rn 71 0 ls r M = rn 71 1 ls (.int 0 :: r) M := r_nx (by decide +kernel : decode (mB 71) 0 = .ok (.iconst 0, 1)) rfl rfl
theorem t71_1 : rn 71 1 (a0 :: a1 :: a2 :: l) (.int x :: r) M = rn 71 2 (a0 :: a1 :: some (.int x) :: l) r M := r_istore_n (by decide +kernel : decode (mB 71) 1 = .ok (.istore_n 2, 1)) (Nat.le_add_left 3 l.length)
theorem t71_2 : rn 71 2 (a0 :: some (.int x) :: l) r M = rn 71 3 (a0 :: some (.int x) :: l) (.int x :: r) M := r_iload_n (by decide +kernel : decode (mB 71) 2 = .ok (.iload_n 1, 1)) rfl
theorem t71_3 : rn 71 3 ls r M = rn 71 4 ls (.int 1 :: r) M := r_nx (by decide +kernel : decode (mB 71) 3 = .ok (.iconst 1, 1)) rfl rfl
theorem t71_4 : rn 71 4 ls (.int y :: .int x :: r) M = rn 71 5 ls (.int (x + y) :: r) M := r_nx (by decide +kernel : decode (mB 71) 4 = .ok (.iadd, 1)) rfl rfl
theorem t71_5 : rn 71 5 (a0 :: a1 :: a2 :: a3 :: l) (.int x :: r) M = rn 71 6 (a0 :: a1 :: a2 :: some (.int x) :: l) r M := r_istore_n (by decide +kernel : decode (mB 71) 5 = .ok (.istore_n 3, 1)) (Nat.le_add_left 4 l.length)
theorem t71_6 : rn 71 6 (a0 :: a1 :: a2 :: some (.int x) :: l) r M = rn 71 7 (a0 :: a1 :: a2 :: some (.int x) :: l) (.int x :: r) M := r_iload_n (by decide +kernel : decode (mB 71) 6 = .ok (.iload_n 3, 1)) rfl
theorem t71_7 : rn 71 7 (some (.ref a) :: l) r M = rn 71 8 (some (.ref a) :: l) (.ref a :: r) M := r_aload_n (by decide +kernel : decode (mB 71) 7 = .ok (.aload_n 0, 1)) rfl
theorem t71_8 : rn 71 8 ls (.ref a :: r) M = if mK M a = (12, 0) then rn 71 11 ls (.int (mI M a 0) :: r) M else none := r_getI (ci := 2) (k := 0) (by decide +kernel : decode (mB 71) 8 = .ok (.getfield 28, 3)) (by decide +kernel) (Or.inl rfl)
theorem t71_11 : rn 71 11 ls (.int y :: .int x :: r) M = if y ≤ x then rn 71 36 ls r M else rn 71 14 ls r M := r_if (o := 25) (r := r) (c := y ≤ x) (by decide +kernel : decode (mB 71) 11 = .ok (.if_icmp .ge 25, 3)) rfl (by decide) rfl
theorem t71_14 : rn 71 14 (some (.ref a) :: l) r M = rn 71 15 (some (.ref a) :: l) (.ref a :: r) M := r_aload_n (by decide +kernel : decode (mB 71) 14 = .ok (.aload_n 0, 1)) rfl
theorem t71_15 : rn 71 15 ls (.ref a :: r) M = if mK M a = (12, 0) then rn 71 18 ls (va_rf (mP M a 6) :: r) M else none := r_getP (ci := 2) (k := 6) (by decide +kernel : decode (mB 71) 15 = .ok (.getfield 25, 3)) (by decide +kernel) rfl
theorem t71_18 : rn 71 18 (a0 :: a1 :: a2 :: some (.int x) :: l) r M = rn 71 19 (a0 :: a1 :: a2 :: some (.int x) :: l) (.int x :: r) M := r_iload_n (by decide +kernel : decode (mB 71) 18 = .ok (.iload_n 3, 1)) rfl
theorem t71_19 : rn 71 19 ls (.int x :: .ref a :: r) M = if (mK M a).1 = 2 ∧ inR x (mK M a).2 then rn 71 20 ls (.long (mJ M a x.toNatClampNeg) :: r) M else none := r_cnd (by decide +kernel : decode (mB 71) 19 = .ok (.laload, 1)) rfl rfl
theorem t71_20 : rn 71 20 (a0 :: some (.int x) :: l) r M = rn 71 21 (a0 :: some (.int x) :: l) (.int x :: r) M := r_iload_n (by decide +kernel : decode (mB 71) 20 = .ok (.iload_n 1, 1)) rfl
theorem t71_21 : rn 71 21 ls [.int x, .long u] M = cbn (cl 27 [.long u, .int x] M) 71 24 ls [] := r_callS (kd := 3) (by decide +kernel : decode (mB 71) 21 = .ok (.invokestatic 64, 3)) (by decide +kernel) (by decide +kernel) ((doS_n np_27).trans rfl)
theorem t71_24 : rn 71 24 ls (.int x :: r) M = if x = 0 then rn 71 30 ls r M else rn 71 27 ls r M := r_if (o := 6) (r := r) (c := x = 0) (by decide +kernel : decode (mB 71) 24 = .ok (.ifCond .eq 6, 3)) rfl (by decide) rfl
theorem t71_27 : rn 71 27 (a0 :: a1 :: some (.int x) :: l) r M = rn 71 30 (a0 :: a1 :: some (.int (x + 1)) :: l) r M := r_iinc (by decide +kernel : decode (mB 71) 27 = .ok (.iinc 2 1, 3)) rfl
theorem t71_30 : rn 71 30 (a0 :: a1 :: a2 :: some (.int x) :: l) r M = rn 71 33 (a0 :: a1 :: a2 :: some (.int (x + 1)) :: l) r M := r_iinc (by decide +kernel : decode (mB 71) 30 = .ok (.iinc 3 1, 3)) rfl
theorem t71_33 : rn 71 33 ls r M = rn 71 6 ls r M := r_goto (o := (-27)) (by decide +kernel : decode (mB 71) 33 = .ok (.goto (-27), 3)) (by decide)
theorem t71_36 : rn 71 36 (a0 :: a1 :: some (.int x) :: l) r M = rn 71 37 (a0 :: a1 :: some (.int x) :: l) (.int x :: r) M := r_iload_n (by decide +kernel : decode (mB 71) 36 = .ok (.iload_n 2, 1)) rfl
theorem t71_37 : rn 71 37 ls [.int x] M = some (some (.int x), M) := r_ireturn (by decide +kernel : decode (mB 71) 37 = .ok (.ireturn, 1)) rfl
-- 79 Tree_directoriesAbove(I)I
theorem t79_0 : rn 79 0 (some (.ref a) :: l) r M = rn 79 1 (some (.ref a) :: l) (.ref a :: r) M := r_aload_n (by decide +kernel : decode (mB 79) 0 = .ok (.aload_n 0, 1)) rfl
theorem t79_1 : rn 79 1 (a0 :: some (.int x) :: l) r M = rn 79 2 (a0 :: some (.int x) :: l) (.int x :: r) M := r_iload_n (by decide +kernel : decode (mB 79) 1 = .ok (.iload_n 1, 1)) rfl
theorem t79_2 : rn 79 2 ls [.int x, .ref a] M = if mK M a = (14, 0) then cbn (cl 52 [.ref a, .int x] M) 79 5 ls [] else none := r_callV (kd := 0) (by decide +kernel : decode (mB 79) 2 = .ok (.invokevirtual 33, 3)) (by decide +kernel) ((doV_n np_52).trans rfl)
theorem t79_5 : rn 79 5 ls (.int x :: r) M = if ¬ x = 0 then rn 79 11 ls r M else rn 79 8 ls r M := r_if (o := 6) (r := r) (c := ¬ x = 0) (by decide +kernel : decode (mB 79) 5 = .ok (.ifCond .ne 6, 3)) rfl (by decide) rfl
theorem t79_8 : rn 79 8 ls r M = rn 79 10 ls (.int (-6) :: r) M := r_nx (by decide +kernel : decode (mB 79) 8 = .ok (.bipush (-6), 2)) rfl rfl
theorem t79_10 : rn 79 10 ls [.int x] M = some (some (.int x), M) := r_ireturn (by decide +kernel : decode (mB 79) 10 = .ok (.ireturn, 1)) rfl
theorem t79_11 : rn 79 11 ls r M = rn 79 12 ls (.int 0 :: r) M := r_nx (by decide +kernel : decode (mB 79) 11 = .ok (.iconst 0, 1)) rfl rfl
theorem t79_12 : rn 79 12 (a0 :: a1 :: a2 :: l) (.int x :: r) M = rn 79 13 (a0 :: a1 :: some (.int x) :: l) r M := r_istore_n (by decide +kernel : decode (mB 79) 12 = .ok (.istore_n 2, 1)) (Nat.le_add_left 3 l.length)
theorem t79_13 : rn 79 13 (some (.ref a) :: l) r M = rn 79 14 (some (.ref a) :: l) (.ref a :: r) M := r_aload_n (by decide +kernel : decode (mB 79) 13 = .ok (.aload_n 0, 1)) rfl
theorem t79_14 : rn 79 14 ls (.ref a :: r) M = if mK M a = (14, 0) then rn 79 17 ls (va_rf (mP M a 0) :: r) M else none := r_getP (ci := 4) (k := 0) (by decide +kernel : decode (mB 79) 14 = .ok (.getfield 9, 3)) (by decide +kernel) rfl
theorem t79_17 : rn 79 17 (a0 :: some (.int x) :: l) r M = rn 79 18 (a0 :: some (.int x) :: l) (.int x :: r) M := r_iload_n (by decide +kernel : decode (mB 79) 17 = .ok (.iload_n 1, 1)) rfl
theorem t79_18 : rn 79 18 ls (.int x :: .ref a :: r) M = if ((mK M a).1 = 1 ∨ (mK M a).1 = 5) ∧ inR x (mK M a).2 then rn 79 19 ls (.int (mI M a x.toNatClampNeg) :: r) M else none := r_cnd (by decide +kernel : decode (mB 79) 18 = .ok (.iaload, 1)) rfl rfl
theorem t79_19 : rn 79 19 (a0 :: a1 :: a2 :: a3 :: l) (.int x :: r) M = rn 79 20 (a0 :: a1 :: a2 :: some (.int x) :: l) r M := r_istore_n (by decide +kernel : decode (mB 79) 19 = .ok (.istore_n 3, 1)) (Nat.le_add_left 4 l.length)
theorem t79_20 : rn 79 20 (a0 :: a1 :: some (.int x) :: l) r M = rn 79 21 (a0 :: a1 :: some (.int x) :: l) (.int x :: r) M := r_iload_n (by decide +kernel : decode (mB 79) 20 = .ok (.iload_n 2, 1)) rfl
theorem t79_21 : rn 79 21 ls r M = rn 79 23 ls (.int 16 :: r) M := r_nx (by decide +kernel : decode (mB 79) 21 = .ok (.bipush 16, 2)) rfl rfl
theorem t79_23 : rn 79 23 ls (.int y :: .int x :: r) M = if y ≤ x then rn 79 46 ls r M else rn 79 26 ls r M := r_if (o := 23) (r := r) (c := y ≤ x) (by decide +kernel : decode (mB 79) 23 = .ok (.if_icmp .ge 23, 3)) rfl (by decide) rfl
theorem t79_26 : rn 79 26 (a0 :: a1 :: a2 :: some (.int x) :: l) r M = rn 79 27 (a0 :: a1 :: a2 :: some (.int x) :: l) (.int x :: r) M := r_iload_n (by decide +kernel : decode (mB 79) 26 = .ok (.iload_n 3, 1)) rfl
theorem t79_27 : rn 79 27 ls [.int x] M = cbn (cl 19 [.int x] M) 79 30 ls [] := r_callS (kd := 3) (by decide +kernel : decode (mB 79) 27 = .ok (.invokestatic 41, 3)) (by decide +kernel) (by decide +kernel) ((doS_n np_19).trans rfl)
theorem t79_30 : rn 79 30 ls (.int x :: r) M = if x = 0 then rn 79 46 ls r M else rn 79 33 ls r M := r_if (o := 16) (r := r) (c := x = 0) (by decide +kernel : decode (mB 79) 30 = .ok (.ifCond .eq 16, 3)) rfl (by decide) rfl
theorem t79_33 : rn 79 33 (a0 :: a1 :: some (.int x) :: l) r M = rn 79 36 (a0 :: a1 :: some (.int (x + 1)) :: l) r M := r_iinc (by decide +kernel : decode (mB 79) 33 = .ok (.iinc 2 1, 3)) rfl
theorem t79_36 : rn 79 36 (some (.ref a) :: l) r M = rn 79 37 (some (.ref a) :: l) (.ref a :: r) M := r_aload_n (by decide +kernel : decode (mB 79) 36 = .ok (.aload_n 0, 1)) rfl
theorem t79_37 : rn 79 37 ls (.ref a :: r) M = if mK M a = (14, 0) then rn 79 40 ls (va_rf (mP M a 0) :: r) M else none := r_getP (ci := 4) (k := 0) (by decide +kernel : decode (mB 79) 37 = .ok (.getfield 9, 3)) (by decide +kernel) rfl
theorem t79_40 : rn 79 40 (a0 :: a1 :: a2 :: some (.int x) :: l) r M = rn 79 41 (a0 :: a1 :: a2 :: some (.int x) :: l) (.int x :: r) M := r_iload_n (by decide +kernel : decode (mB 79) 40 = .ok (.iload_n 3, 1)) rfl
theorem t79_41 : rn 79 41 ls (.int x :: .ref a :: r) M = if ((mK M a).1 = 1 ∨ (mK M a).1 = 5) ∧ inR x (mK M a).2 then rn 79 42 ls (.int (mI M a x.toNatClampNeg) :: r) M else none := r_cnd (by decide +kernel : decode (mB 79) 41 = .ok (.iaload, 1)) rfl rfl
theorem t79_42 : rn 79 42 (a0 :: a1 :: a2 :: a3 :: l) (.int x :: r) M = rn 79 43 (a0 :: a1 :: a2 :: some (.int x) :: l) r M := r_istore_n (by decide +kernel : decode (mB 79) 42 = .ok (.istore_n 3, 1)) (Nat.le_add_left 4 l.length)
theorem t79_43 : rn 79 43 ls r M = rn 79 20 ls r M := r_goto (o := (-23)) (by decide +kernel : decode (mB 79) 43 = .ok (.goto (-23), 3)) (by decide)
theorem t79_46 : rn 79 46 (a0 :: a1 :: some (.int x) :: l) r M = rn 79 47 (a0 :: a1 :: some (.int x) :: l) (.int x :: r) M := r_iload_n (by decide +kernel : decode (mB 79) 46 = .ok (.iload_n 2, 1)) rfl
theorem t79_47 : rn 79 47 ls [.int x] M = some (some (.int x), M) := r_ireturn (by decide +kernel : decode (mB 79) 47 = .ok (.ireturn, 1)) rfl
-- 80 Tree_filesBelow(I)I
theorem t80_0 : rn 80 0 ls r M = rn 80 1 ls (.int 0 :: r) M := r_nx (by decide +kernel : decode (mB 80) 0 = .ok (.iconst 0, 1)) rfl rfl
theorem t80_1 : rn 80 1 (a0 :: a1 :: a2 :: l) (.int x :: r) M = rn 80 2 (a0 :: a1 :: some (.int x) :: l) r M := r_istore_n (by decide +kernel : decode (mB 80) 1 = .ok (.istore_n 2, 1)) (Nat.le_add_left 3 l.length)
theorem t80_2 : rn 80 2 ls r M = rn 80 3 ls (.int 0 :: r) M := r_nx (by decide +kernel : decode (mB 80) 2 = .ok (.iconst 0, 1)) rfl rfl
theorem t80_3 : rn 80 3 (a0 :: a1 :: a2 :: a3 :: l) (.int x :: r) M = rn 80 4 (a0 :: a1 :: a2 :: some (.int x) :: l) r M := r_istore_n (by decide +kernel : decode (mB 80) 3 = .ok (.istore_n 3, 1)) (Nat.le_add_left 4 l.length)
theorem t80_4 : rn 80 4 (a0 :: a1 :: a2 :: some (.int x) :: l) r M = rn 80 5 (a0 :: a1 :: a2 :: some (.int x) :: l) (.int x :: r) M := r_iload_n (by decide +kernel : decode (mB 80) 4 = .ok (.iload_n 3, 1)) rfl
theorem t80_5 : rn 80 5 ls r M = rn 80 7 ls (.int 16 :: r) M := r_nx (by decide +kernel : decode (mB 80) 5 = .ok (.bipush 16, 2)) rfl rfl
theorem t80_7 : rn 80 7 ls (.int y :: .int x :: r) M = if y ≤ x then rn 80 33 ls r M else rn 80 10 ls r M := r_if (o := 26) (r := r) (c := y ≤ x) (by decide +kernel : decode (mB 80) 7 = .ok (.if_icmp .ge 26, 3)) rfl (by decide) rfl
theorem t80_10 : rn 80 10 (a0 :: a1 :: a2 :: some (.int x) :: l) r M = rn 80 11 (a0 :: a1 :: a2 :: some (.int x) :: l) (.int x :: r) M := r_iload_n (by decide +kernel : decode (mB 80) 10 = .ok (.iload_n 3, 1)) rfl
theorem t80_11 : rn 80 11 (a0 :: some (.int x) :: l) r M = rn 80 12 (a0 :: some (.int x) :: l) (.int x :: r) M := r_iload_n (by decide +kernel : decode (mB 80) 11 = .ok (.iload_n 1, 1)) rfl
theorem t80_12 : rn 80 12 ls (.int y :: .int x :: r) M = if x = y then rn 80 27 ls r M else rn 80 15 ls r M := r_if (o := 15) (r := r) (c := x = y) (by decide +kernel : decode (mB 80) 12 = .ok (.if_icmp .eq 15, 3)) rfl (by decide) rfl
theorem t80_15 : rn 80 15 (some (.ref a) :: l) r M = rn 80 16 (some (.ref a) :: l) (.ref a :: r) M := r_aload_n (by decide +kernel : decode (mB 80) 15 = .ok (.aload_n 0, 1)) rfl
theorem t80_16 : rn 80 16 (a0 :: a1 :: a2 :: some (.int x) :: l) r M = rn 80 17 (a0 :: a1 :: a2 :: some (.int x) :: l) (.int x :: r) M := r_iload_n (by decide +kernel : decode (mB 80) 16 = .ok (.iload_n 3, 1)) rfl
theorem t80_17 : rn 80 17 (a0 :: some (.int x) :: l) r M = rn 80 18 (a0 :: some (.int x) :: l) (.int x :: r) M := r_iload_n (by decide +kernel : decode (mB 80) 17 = .ok (.iload_n 1, 1)) rfl
theorem t80_18 : rn 80 18 ls [.int x, .int y, .ref a] M = if mK M a = (14, 0) then cbn (cl 53 [.ref a, .int y, .int x] M) 80 21 ls [] else none := r_callV (kd := 0) (by decide +kernel : decode (mB 80) 18 = .ok (.invokevirtual 51, 3)) (by decide +kernel) ((doV_n np_53).trans rfl)
theorem t80_21 : rn 80 21 ls (.int x :: r) M = if x = 0 then rn 80 27 ls r M else rn 80 24 ls r M := r_if (o := 6) (r := r) (c := x = 0) (by decide +kernel : decode (mB 80) 21 = .ok (.ifCond .eq 6, 3)) rfl (by decide) rfl
theorem t80_24 : rn 80 24 (a0 :: a1 :: some (.int x) :: l) r M = rn 80 27 (a0 :: a1 :: some (.int (x + 1)) :: l) r M := r_iinc (by decide +kernel : decode (mB 80) 24 = .ok (.iinc 2 1, 3)) rfl
theorem t80_27 : rn 80 27 (a0 :: a1 :: a2 :: some (.int x) :: l) r M = rn 80 30 (a0 :: a1 :: a2 :: some (.int (x + 1)) :: l) r M := r_iinc (by decide +kernel : decode (mB 80) 27 = .ok (.iinc 3 1, 3)) rfl
theorem t80_30 : rn 80 30 ls r M = rn 80 4 ls r M := r_goto (o := (-26)) (by decide +kernel : decode (mB 80) 30 = .ok (.goto (-26), 3)) (by decide)
theorem t80_33 : rn 80 33 (a0 :: a1 :: some (.int x) :: l) r M = rn 80 34 (a0 :: a1 :: some (.int x) :: l) (.int x :: r) M := r_iload_n (by decide +kernel : decode (mB 80) 33 = .ok (.iload_n 2, 1)) rfl
theorem t80_34 : rn 80 34 ls [.int x] M = some (some (.int x), M) := r_ireturn (by decide +kernel : decode (mB 80) 34 = .ok (.ireturn, 1)) rfl
-- 82 Tree_otherwiseThan(LDependentReplay$Tree;)I
theorem t82_0 : rn 82 0 ls r M = rn 82 1 ls (.int 0 :: r) M := r_nx (by decide +kernel : decode (mB 82) 0 = .ok (.iconst 0, 1)) rfl rfl
theorem t82_1 : rn 82 1 (a0 :: a1 :: a2 :: l) (.int x :: r) M = rn 82 2 (a0 :: a1 :: some (.int x) :: l) r M := r_istore_n (by decide +kernel : decode (mB 82) 1 = .ok (.istore_n 2, 1)) (Nat.le_add_left 3 l.length)
theorem t82_2 : rn 82 2 ls r M = rn 82 3 ls (.int 0 :: r) M := r_nx (by decide +kernel : decode (mB 82) 2 = .ok (.iconst 0, 1)) rfl rfl
theorem t82_3 : rn 82 3 (a0 :: a1 :: a2 :: a3 :: l) (.int x :: r) M = rn 82 4 (a0 :: a1 :: a2 :: some (.int x) :: l) r M := r_istore_n (by decide +kernel : decode (mB 82) 3 = .ok (.istore_n 3, 1)) (Nat.le_add_left 4 l.length)
theorem t82_4 : rn 82 4 (a0 :: a1 :: a2 :: some (.int x) :: l) r M = rn 82 5 (a0 :: a1 :: a2 :: some (.int x) :: l) (.int x :: r) M := r_iload_n (by decide +kernel : decode (mB 82) 4 = .ok (.iload_n 3, 1)) rfl
theorem t82_5 : rn 82 5 ls r M = rn 82 7 ls (.int 16 :: r) M := r_nx (by decide +kernel : decode (mB 82) 5 = .ok (.bipush 16, 2)) rfl rfl
theorem t82_7 : rn 82 7 ls (.int y :: .int x :: r) M = if y ≤ x then rn 82 52 ls r M else rn 82 10 ls r M := r_if (o := 45) (r := r) (c := y ≤ x) (by decide +kernel : decode (mB 82) 7 = .ok (.if_icmp .ge 45, 3)) rfl (by decide) rfl
theorem t82_10 : rn 82 10 (some (.ref a) :: l) r M = rn 82 11 (some (.ref a) :: l) (.ref a :: r) M := r_aload_n (by decide +kernel : decode (mB 82) 10 = .ok (.aload_n 0, 1)) rfl
theorem t82_11 : rn 82 11 ls (.ref a :: r) M = if mK M a = (14, 0) then rn 82 14 ls (va_rf (mP M a 0) :: r) M else none := r_getP (ci := 4) (k := 0) (by decide +kernel : decode (mB 82) 11 = .ok (.getfield 9, 3)) (by decide +kernel) rfl
theorem t82_14 : rn 82 14 (a0 :: a1 :: a2 :: some (.int x) :: l) r M = rn 82 15 (a0 :: a1 :: a2 :: some (.int x) :: l) (.int x :: r) M := r_iload_n (by decide +kernel : decode (mB 82) 14 = .ok (.iload_n 3, 1)) rfl
theorem t82_15 : rn 82 15 ls (.int x :: .ref a :: r) M = if ((mK M a).1 = 1 ∨ (mK M a).1 = 5) ∧ inR x (mK M a).2 then rn 82 16 ls (.int (mI M a x.toNatClampNeg) :: r) M else none := r_cnd (by decide +kernel : decode (mB 82) 15 = .ok (.iaload, 1)) rfl rfl
theorem t82_16 : rn 82 16 (a0 :: some (.ref a) :: l) r M = rn 82 17 (a0 :: some (.ref a) :: l) (.ref a :: r) M := r_aload_n (by decide +kernel : decode (mB 82) 16 = .ok (.aload_n 1, 1)) rfl
theorem t82_17 : rn 82 17 ls (.ref a :: r) M = if mK M a = (14, 0) then rn 82 20 ls (va_rf (mP M a 0) :: r) M else none := r_getP (ci := 4) (k := 0) (by decide +kernel : decode (mB 82) 17 = .ok (.getfield 9, 3)) (by decide +kernel) rfl
theorem t82_20 : rn 82 20 (a0 :: a1 :: a2 :: some (.int x) :: l) r M = rn 82 21 (a0 :: a1 :: a2 :: some (.int x) :: l) (.int x :: r) M := r_iload_n (by decide +kernel : decode (mB 82) 20 = .ok (.iload_n 3, 1)) rfl
theorem t82_21 : rn 82 21 ls (.int x :: .ref a :: r) M = if ((mK M a).1 = 1 ∨ (mK M a).1 = 5) ∧ inR x (mK M a).2 then rn 82 22 ls (.int (mI M a x.toNatClampNeg) :: r) M else none := r_cnd (by decide +kernel : decode (mB 82) 21 = .ok (.iaload, 1)) rfl rfl
theorem t82_22 : rn 82 22 ls (.int y :: .int x :: r) M = if ¬ x = y then rn 82 40 ls r M else rn 82 25 ls r M := r_if (o := 18) (r := r) (c := ¬ x = y) (by decide +kernel : decode (mB 82) 22 = .ok (.if_icmp .ne 18, 3)) rfl (by decide) rfl
theorem t82_25 : rn 82 25 (some (.ref a) :: l) r M = rn 82 26 (some (.ref a) :: l) (.ref a :: r) M := r_aload_n (by decide +kernel : decode (mB 82) 25 = .ok (.aload_n 0, 1)) rfl
theorem t82_26 : rn 82 26 ls (.ref a :: r) M = if mK M a = (14, 0) then rn 82 29 ls (va_rf (mP M a 1) :: r) M else none := r_getP (ci := 4) (k := 1) (by decide +kernel : decode (mB 82) 26 = .ok (.getfield 15, 3)) (by decide +kernel) rfl
theorem t82_29 : rn 82 29 (a0 :: a1 :: a2 :: some (.int x) :: l) r M = rn 82 30 (a0 :: a1 :: a2 :: some (.int x) :: l) (.int x :: r) M := r_iload_n (by decide +kernel : decode (mB 82) 29 = .ok (.iload_n 3, 1)) rfl
theorem t82_30 : rn 82 30 ls (.int x :: .ref a :: r) M = if ((mK M a).1 = 1 ∨ (mK M a).1 = 5) ∧ inR x (mK M a).2 then rn 82 31 ls (.int (mI M a x.toNatClampNeg) :: r) M else none := r_cnd (by decide +kernel : decode (mB 82) 30 = .ok (.iaload, 1)) rfl rfl
theorem t82_31 : rn 82 31 (a0 :: some (.ref a) :: l) r M = rn 82 32 (a0 :: some (.ref a) :: l) (.ref a :: r) M := r_aload_n (by decide +kernel : decode (mB 82) 31 = .ok (.aload_n 1, 1)) rfl
theorem t82_32 : rn 82 32 ls (.ref a :: r) M = if mK M a = (14, 0) then rn 82 35 ls (va_rf (mP M a 1) :: r) M else none := r_getP (ci := 4) (k := 1) (by decide +kernel : decode (mB 82) 32 = .ok (.getfield 15, 3)) (by decide +kernel) rfl
theorem t82_35 : rn 82 35 (a0 :: a1 :: a2 :: some (.int x) :: l) r M = rn 82 36 (a0 :: a1 :: a2 :: some (.int x) :: l) (.int x :: r) M := r_iload_n (by decide +kernel : decode (mB 82) 35 = .ok (.iload_n 3, 1)) rfl
theorem t82_36 : rn 82 36 ls (.int x :: .ref a :: r) M = if ((mK M a).1 = 1 ∨ (mK M a).1 = 5) ∧ inR x (mK M a).2 then rn 82 37 ls (.int (mI M a x.toNatClampNeg) :: r) M else none := r_cnd (by decide +kernel : decode (mB 82) 36 = .ok (.iaload, 1)) rfl rfl
theorem t82_37 : rn 82 37 ls (.int y :: .int x :: r) M = if x = y then rn 82 46 ls r M else rn 82 40 ls r M := r_if (o := 9) (r := r) (c := x = y) (by decide +kernel : decode (mB 82) 37 = .ok (.if_icmp .eq 9, 3)) rfl (by decide) rfl
theorem t82_40 : rn 82 40 (a0 :: a1 :: some (.int x) :: l) r M = rn 82 41 (a0 :: a1 :: some (.int x) :: l) (.int x :: r) M := r_iload_n (by decide +kernel : decode (mB 82) 40 = .ok (.iload_n 2, 1)) rfl
theorem t82_41 : rn 82 41 ls r M = rn 82 42 ls (.int 1 :: r) M := r_nx (by decide +kernel : decode (mB 82) 41 = .ok (.iconst 1, 1)) rfl rfl
theorem t82_42 : rn 82 42 (a0 :: a1 :: a2 :: some (.int x) :: l) r M = rn 82 43 (a0 :: a1 :: a2 :: some (.int x) :: l) (.int x :: r) M := r_iload_n (by decide +kernel : decode (mB 82) 42 = .ok (.iload_n 3, 1)) rfl
theorem t82_43 : rn 82 43 ls (.int y :: .int x :: r) M = rn 82 44 ls (.int (x <<< (y &&& 31)) :: r) M := r_nx (by decide +kernel : decode (mB 82) 43 = .ok (.ishl, 1)) rfl rfl
theorem t82_44 : rn 82 44 ls (.int y :: .int x :: r) M = rn 82 45 ls (.int (x ||| y) :: r) M := r_nx (by decide +kernel : decode (mB 82) 44 = .ok (.ior, 1)) rfl rfl
theorem t82_45 : rn 82 45 (a0 :: a1 :: a2 :: l) (.int x :: r) M = rn 82 46 (a0 :: a1 :: some (.int x) :: l) r M := r_istore_n (by decide +kernel : decode (mB 82) 45 = .ok (.istore_n 2, 1)) (Nat.le_add_left 3 l.length)
theorem t82_46 : rn 82 46 (a0 :: a1 :: a2 :: some (.int x) :: l) r M = rn 82 49 (a0 :: a1 :: a2 :: some (.int (x + 1)) :: l) r M := r_iinc (by decide +kernel : decode (mB 82) 46 = .ok (.iinc 3 1, 3)) rfl
theorem t82_49 : rn 82 49 ls r M = rn 82 4 ls r M := r_goto (o := (-45)) (by decide +kernel : decode (mB 82) 49 = .ok (.goto (-45), 3)) (by decide)
theorem t82_52 : rn 82 52 (a0 :: a1 :: some (.int x) :: l) r M = rn 82 53 (a0 :: a1 :: some (.int x) :: l) (.int x :: r) M := r_iload_n (by decide +kernel : decode (mB 82) 52 = .ok (.iload_n 2, 1)) rfl
theorem t82_53 : rn 82 53 ls [.int x] M = some (some (.int x), M) := r_ireturn (by decide +kernel : decode (mB 82) 53 = .ok (.ireturn, 1)) rfl
-- 85 Tree_size()I
theorem t85_0 : rn 85 0 ls r M = rn 85 1 ls (.int 0 :: r) M := r_nx (by decide +kernel : decode (mB 85) 0 = .ok (.iconst 0, 1)) rfl rfl
theorem t85_1 : rn 85 1 (a0 :: a1 :: l) (.int x :: r) M = rn 85 2 (a0 :: some (.int x) :: l) r M := r_istore_n (by decide +kernel : decode (mB 85) 1 = .ok (.istore_n 1, 1)) (Nat.le_add_left 2 l.length)
theorem t85_2 : rn 85 2 ls r M = rn 85 3 ls (.int 0 :: r) M := r_nx (by decide +kernel : decode (mB 85) 2 = .ok (.iconst 0, 1)) rfl rfl
theorem t85_3 : rn 85 3 (a0 :: a1 :: a2 :: l) (.int x :: r) M = rn 85 4 (a0 :: a1 :: some (.int x) :: l) r M := r_istore_n (by decide +kernel : decode (mB 85) 3 = .ok (.istore_n 2, 1)) (Nat.le_add_left 3 l.length)
theorem t85_4 : rn 85 4 (a0 :: a1 :: some (.int x) :: l) r M = rn 85 5 (a0 :: a1 :: some (.int x) :: l) (.int x :: r) M := r_iload_n (by decide +kernel : decode (mB 85) 4 = .ok (.iload_n 2, 1)) rfl
theorem t85_5 : rn 85 5 ls r M = rn 85 7 ls (.int 16 :: r) M := r_nx (by decide +kernel : decode (mB 85) 5 = .ok (.bipush 16, 2)) rfl rfl
theorem t85_7 : rn 85 7 ls (.int y :: .int x :: r) M = if y ≤ x then rn 85 27 ls r M else rn 85 10 ls r M := r_if (o := 20) (r := r) (c := y ≤ x) (by decide +kernel : decode (mB 85) 7 = .ok (.if_icmp .ge 20, 3)) rfl (by decide) rfl
theorem t85_10 : rn 85 10 (some (.ref a) :: l) r M = rn 85 11 (some (.ref a) :: l) (.ref a :: r) M := r_aload_n (by decide +kernel : decode (mB 85) 10 = .ok (.aload_n 0, 1)) rfl
theorem t85_11 : rn 85 11 (a0 :: a1 :: some (.int x) :: l) r M = rn 85 12 (a0 :: a1 :: some (.int x) :: l) (.int x :: r) M := r_iload_n (by decide +kernel : decode (mB 85) 11 = .ok (.iload_n 2, 1)) rfl
theorem t85_12 : rn 85 12 ls [.int x, .ref a] M = if mK M a = (14, 0) then cbn (cl 52 [.ref a, .int x] M) 85 15 ls [] else none := r_callV (kd := 0) (by decide +kernel : decode (mB 85) 12 = .ok (.invokevirtual 33, 3)) (by decide +kernel) ((doV_n np_52).trans rfl)
theorem t85_15 : rn 85 15 ls (.int x :: r) M = if x = 0 then rn 85 21 ls r M else rn 85 18 ls r M := r_if (o := 6) (r := r) (c := x = 0) (by decide +kernel : decode (mB 85) 15 = .ok (.ifCond .eq 6, 3)) rfl (by decide) rfl
theorem t85_18 : rn 85 18 (a0 :: some (.int x) :: l) r M = rn 85 21 (a0 :: some (.int (x + 1)) :: l) r M := r_iinc (by decide +kernel : decode (mB 85) 18 = .ok (.iinc 1 1, 3)) rfl
theorem t85_21 : rn 85 21 (a0 :: a1 :: some (.int x) :: l) r M = rn 85 24 (a0 :: a1 :: some (.int (x + 1)) :: l) r M := r_iinc (by decide +kernel : decode (mB 85) 21 = .ok (.iinc 2 1, 3)) rfl
theorem t85_24 : rn 85 24 ls r M = rn 85 4 ls r M := r_goto (o := (-20)) (by decide +kernel : decode (mB 85) 24 = .ok (.goto (-20), 3)) (by decide)
theorem t85_27 : rn 85 27 (a0 :: some (.int x) :: l) r M = rn 85 28 (a0 :: some (.int x) :: l) (.int x :: r) M := r_iload_n (by decide +kernel : decode (mB 85) 27 = .ok (.iload_n 1, 1)) rfl
theorem t85_28 : rn 85 28 ls [.int x] M = some (some (.int x), M) := r_ireturn (by decide +kernel : decode (mB 85) 28 = .ok (.ireturn, 1)) rfl
end S1
