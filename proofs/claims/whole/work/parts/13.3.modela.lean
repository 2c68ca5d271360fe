/-! step rows, by program (wip/whole/gen13.py): modela -/
section S3
variable {a0 a1 a2 a3 a4 a5 a6 a7 a8 a9 : Option Value} {l ls : List (Option Value)} {r : List Value} {M : SM} {x y z w p k : Int32} {u v s : Int64} {a b c d : Nat}

-- 99 DRModel_init()V
theorem t99_0 : rn 99 0 (some (.ref a) :: l) r M = rn 99 1 (some (.ref a) :: l) (.ref a :: r) M := r_aload_n (by decide +kernel : decode (mB 99) 0 = .ok (.aload_n 0, 1)) rfl
theorem t99_1 : rn 99 1 ls [.ref a] M = rn 99 4 ls [] M := r_obj (by decide +kernel : decode (mB 99) 1 = .ok (.invokespecial 1, 3)) (by decide +kernel) (by decide)
theorem t99_4 : rn 99 4 (some (.ref a) :: l) r M = rn 99 5 (some (.ref a) :: l) (.ref a :: r) M := r_aload_n (by decide +kernel : decode (mB 99) 4 = .ok (.aload_n 0, 1)) rfl
theorem t99_5 : rn 99 5 ls r M = rn 99 8 ls (.int 370 :: r) M := r_nx (by decide +kernel : decode (mB 99) 5 = .ok (.sipush 370, 3)) rfl rfl
theorem t99_8 : rn 99 8 ls (.int x :: r) M = if 0 ≤ x ∧ x ≤ 100000 then rn 99 10 ls (.ref (mS M) :: r) (nw M (1, x.toNatClampNeg) x.toNatClampNeg) else none := r_newI (by decide +kernel : decode (mB 99) 8 = .ok (.newarray .int, 2))
theorem t99_10 : rn 99 10 ls (.ref b :: .ref a :: r) M = if mK M a = (19, 0) then rn 99 13 ls r (sP M a (va_up (mP M a) 0 (some b))) else none := r_putP (ci := 9) (k := 0) (by decide +kernel : decode (mB 99) 10 = .ok (.putfield 7, 3)) (by decide +kernel) rfl rfl
theorem t99_13 : rn 99 13 (some (.ref a) :: l) r M = rn 99 14 (some (.ref a) :: l) (.ref a :: r) M := r_aload_n (by decide +kernel : decode (mB 99) 13 = .ok (.aload_n 0, 1)) rfl
theorem t99_14 : rn 99 14 ls r M = rn 99 17 ls (.int 370 :: r) M := r_nx (by decide +kernel : decode (mB 99) 14 = .ok (.sipush 370, 3)) rfl rfl
theorem t99_17 : rn 99 17 ls (.int x :: r) M = if 0 ≤ x ∧ x ≤ 100000 then rn 99 19 ls (.ref (mS M) :: r) (nw M (1, x.toNatClampNeg) x.toNatClampNeg) else none := r_newI (by decide +kernel : decode (mB 99) 17 = .ok (.newarray .int, 2))
theorem t99_19 : rn 99 19 ls (.ref b :: .ref a :: r) M = if mK M a = (19, 0) then rn 99 22 ls r (sP M a (va_up (mP M a) 1 (some b))) else none := r_putP (ci := 9) (k := 1) (by decide +kernel : decode (mB 99) 19 = .ok (.putfield 13, 3)) (by decide +kernel) rfl rfl
theorem t99_22 : rn 99 22 (some (.ref a) :: l) r M = rn 99 23 (some (.ref a) :: l) (.ref a :: r) M := r_aload_n (by decide +kernel : decode (mB 99) 22 = .ok (.aload_n 0, 1)) rfl
theorem t99_23 : rn 99 23 ls r M = rn 99 26 ls (.int 2220 :: r) M := r_nx (by decide +kernel : decode (mB 99) 23 = .ok (.sipush 2220, 3)) rfl rfl
theorem t99_26 : rn 99 26 ls (.int x :: r) M = if 0 ≤ x ∧ x ≤ 100000 then rn 99 28 ls (.ref (mS M) :: r) (nw M (1, x.toNatClampNeg) x.toNatClampNeg) else none := r_newI (by decide +kernel : decode (mB 99) 26 = .ok (.newarray .int, 2))
theorem t99_28 : rn 99 28 ls (.ref b :: .ref a :: r) M = if mK M a = (19, 0) then rn 99 31 ls r (sP M a (va_up (mP M a) 2 (some b))) else none := r_putP (ci := 9) (k := 2) (by decide +kernel : decode (mB 99) 28 = .ok (.putfield 16, 3)) (by decide +kernel) rfl rfl
theorem t99_31 : rn 99 31 (some (.ref a) :: l) r M = rn 99 32 (some (.ref a) :: l) (.ref a :: r) M := r_aload_n (by decide +kernel : decode (mB 99) 31 = .ok (.aload_n 0, 1)) rfl
theorem t99_32 : rn 99 32 ls r M = rn 99 35 ls (.int 740 :: r) M := r_nx (by decide +kernel : decode (mB 99) 32 = .ok (.sipush 740, 3)) rfl rfl
theorem t99_35 : rn 99 35 ls (.int x :: r) M = if 0 ≤ x ∧ x ≤ 100000 then rn 99 37 ls (.ref (mS M) :: r) (nw M (1, x.toNatClampNeg) x.toNatClampNeg) else none := r_newI (by decide +kernel : decode (mB 99) 35 = .ok (.newarray .int, 2))
theorem t99_37 : rn 99 37 ls (.ref b :: .ref a :: r) M = if mK M a = (19, 0) then rn 99 40 ls r (sP M a (va_up (mP M a) 4 (some b))) else none := r_putP (ci := 9) (k := 4) (by decide +kernel : decode (mB 99) 37 = .ok (.putfield 19, 3)) (by decide +kernel) rfl rfl
theorem t99_40 : rn 99 40 (some (.ref a) :: l) r M = rn 99 41 (some (.ref a) :: l) (.ref a :: r) M := r_aload_n (by decide +kernel : decode (mB 99) 40 = .ok (.aload_n 0, 1)) rfl
theorem t99_41 : rn 99 41 ls r M = rn 99 42 ls (.int 2 :: r) M := r_nx (by decide +kernel : decode (mB 99) 41 = .ok (.iconst 2, 1)) rfl rfl
theorem t99_42 : rn 99 42 ls (.int x :: r) M = if 0 ≤ x ∧ x ≤ 100000 then rn 99 44 ls (.ref (mS M) :: r) (nw M (1, x.toNatClampNeg) x.toNatClampNeg) else none := r_newI (by decide +kernel : decode (mB 99) 42 = .ok (.newarray .int, 2))
theorem t99_44 : rn 99 44 ls (.ref b :: .ref a :: r) M = if mK M a = (19, 0) then rn 99 47 ls r (sP M a (va_up (mP M a) 5 (some b))) else none := r_putP (ci := 9) (k := 5) (by decide +kernel : decode (mB 99) 44 = .ok (.putfield 22, 3)) (by decide +kernel) rfl rfl
theorem t99_47 : rn 99 47 (some (.ref a) :: l) r M = rn 99 48 (some (.ref a) :: l) (.ref a :: r) M := r_aload_n (by decide +kernel : decode (mB 99) 47 = .ok (.aload_n 0, 1)) rfl
theorem t99_48 : rn 99 48 ls r M = rn 99 50 ls (.int 80 :: r) M := r_nx (by decide +kernel : decode (mB 99) 48 = .ok (.bipush 80, 2)) rfl rfl
theorem t99_50 : rn 99 50 ls (.int x :: r) M = if 0 ≤ x ∧ x ≤ 100000 then rn 99 52 ls (.ref (mS M) :: r) (nw M (1, x.toNatClampNeg) x.toNatClampNeg) else none := r_newI (by decide +kernel : decode (mB 99) 50 = .ok (.newarray .int, 2))
theorem t99_52 : rn 99 52 ls (.ref b :: .ref a :: r) M = if mK M a = (19, 0) then rn 99 55 ls r (sP M a (va_up (mP M a) 6 (some b))) else none := r_putP (ci := 9) (k := 6) (by decide +kernel : decode (mB 99) 52 = .ok (.putfield 25, 3)) (by decide +kernel) rfl rfl
theorem t99_55 : rn 99 55 (some (.ref a) :: l) r M = rn 99 56 (some (.ref a) :: l) (.ref a :: r) M := r_aload_n (by decide +kernel : decode (mB 99) 55 = .ok (.aload_n 0, 1)) rfl
theorem t99_56 : rn 99 56 ls r M = rn 99 58 ls (.int 40 :: r) M := r_nx (by decide +kernel : decode (mB 99) 56 = .ok (.bipush 40, 2)) rfl rfl
theorem t99_58 : rn 99 58 ls (.int x :: r) M = if 0 ≤ x ∧ x ≤ 100000 then rn 99 60 ls (.ref (mS M) :: r) (nw M (2, x.toNatClampNeg) x.toNatClampNeg) else none := r_newJ (by decide +kernel : decode (mB 99) 58 = .ok (.newarray .long, 2))
theorem t99_60 : rn 99 60 ls (.ref b :: .ref a :: r) M = if mK M a = (19, 0) then rn 99 63 ls r (sP M a (va_up (mP M a) 8 (some b))) else none := r_putP (ci := 9) (k := 8) (by decide +kernel : decode (mB 99) 60 = .ok (.putfield 28, 3)) (by decide +kernel) rfl rfl
theorem t99_63 : rn 99 63 (some (.ref a) :: l) r M = rn 99 64 (some (.ref a) :: l) (.ref a :: r) M := r_aload_n (by decide +kernel : decode (mB 99) 63 = .ok (.aload_n 0, 1)) rfl
theorem t99_64 : rn 99 64 ls r M = rn 99 66 ls (.int 40 :: r) M := r_nx (by decide +kernel : decode (mB 99) 64 = .ok (.bipush 40, 2)) rfl rfl
theorem t99_66 : rn 99 66 ls (.int x :: r) M = if 0 ≤ x ∧ x ≤ 100000 then rn 99 68 ls (.ref (mS M) :: r) (nw M (1, x.toNatClampNeg) x.toNatClampNeg) else none := r_newI (by decide +kernel : decode (mB 99) 66 = .ok (.newarray .int, 2))
theorem t99_68 : rn 99 68 ls (.ref b :: .ref a :: r) M = if mK M a = (19, 0) then rn 99 71 ls r (sP M a (va_up (mP M a) 9 (some b))) else none := r_putP (ci := 9) (k := 9) (by decide +kernel : decode (mB 99) 68 = .ok (.putfield 32, 3)) (by decide +kernel) rfl rfl
theorem t99_71 : rn 99 71 (some (.ref a) :: l) r M = rn 99 72 (some (.ref a) :: l) (.ref a :: r) M := r_aload_n (by decide +kernel : decode (mB 99) 71 = .ok (.aload_n 0, 1)) rfl
theorem t99_72 : rn 99 72 ls r M = rn 99 74 ls (.int 48 :: r) M := r_nx (by decide +kernel : decode (mB 99) 72 = .ok (.bipush 48, 2)) rfl rfl
theorem t99_74 : rn 99 74 ls (.int x :: r) M = if 0 ≤ x ∧ x ≤ 100000 then rn 99 76 ls (.ref (mS M) :: r) (nw M (1, x.toNatClampNeg) x.toNatClampNeg) else none := r_newI (by decide +kernel : decode (mB 99) 74 = .ok (.newarray .int, 2))
theorem t99_76 : rn 99 76 ls (.ref b :: .ref a :: r) M = if mK M a = (19, 0) then rn 99 79 ls r (sP M a (va_up (mP M a) 10 (some b))) else none := r_putP (ci := 9) (k := 10) (by decide +kernel : decode (mB 99) 76 = .ok (.putfield 35, 3)) (by decide +kernel) rfl rfl
theorem t99_79 : rn 99 79 (some (.ref a) :: l) r M = rn 99 80 (some (.ref a) :: l) (.ref a :: r) M := r_aload_n (by decide +kernel : decode (mB 99) 79 = .ok (.aload_n 0, 1)) rfl
theorem t99_80 : rn 99 80 ls [.ref a] M = if mK M a = (19, 0) then cbn (cl 100 [.ref a] M) 99 83 ls [] else none := r_callV (kd := 0) (by decide +kernel : decode (mB 99) 80 = .ok (.invokevirtual 38, 3)) (by decide +kernel) ((doV_n np_100).trans rfl)
theorem t99_83 : rn 99 83 ls [] M = some (none, M) := r_vreturn (by decide +kernel : decode (mB 99) 83 = .ok (.return_, 1)) rfl
-- 100 DRModel_emptyTree()V
theorem t100_0 : rn 100 0 ls r M = rn 100 1 ls (.int 0 :: r) M := r_nx (by decide +kernel : decode (mB 100) 0 = .ok (.iconst 0, 1)) rfl rfl
theorem t100_1 : rn 100 1 (a0 :: a1 :: l) (.int x :: r) M = rn 100 2 (a0 :: some (.int x) :: l) r M := r_istore_n (by decide +kernel : decode (mB 100) 1 = .ok (.istore_n 1, 1)) (Nat.le_add_left 2 l.length)
theorem t100_2 : rn 100 2 (a0 :: some (.int x) :: l) r M = rn 100 3 (a0 :: some (.int x) :: l) (.int x :: r) M := r_iload_n (by decide +kernel : decode (mB 100) 2 = .ok (.iload_n 1, 1)) rfl
theorem t100_3 : rn 100 3 ls r M = rn 100 5 ls (.int 16 :: r) M := r_nx (by decide +kernel : decode (mB 100) 3 = .ok (.bipush 16, 2)) rfl rfl
theorem t100_5 : rn 100 5 ls (.int y :: .int x :: r) M = if y ≤ x then rn 100 40 ls r M else rn 100 8 ls r M := r_if (o := 35) (r := r) (c := y ≤ x) (by decide +kernel : decode (mB 100) 5 = .ok (.if_icmp .ge 35, 3)) rfl (by decide) rfl
theorem t100_8 : rn 100 8 (some (.ref a) :: l) r M = rn 100 9 (some (.ref a) :: l) (.ref a :: r) M := r_aload_n (by decide +kernel : decode (mB 100) 8 = .ok (.aload_n 0, 1)) rfl
theorem t100_9 : rn 100 9 (a0 :: some (.int x) :: l) r M = rn 100 10 (a0 :: some (.int x) :: l) (.int x :: r) M := r_iload_n (by decide +kernel : decode (mB 100) 9 = .ok (.iload_n 1, 1)) rfl
theorem t100_10 : rn 100 10 (a0 :: some (.int x) :: l) r M = rn 100 11 (a0 :: some (.int x) :: l) (.int x :: r) M := r_iload_n (by decide +kernel : decode (mB 100) 10 = .ok (.iload_n 1, 1)) rfl
theorem t100_11 : rn 100 11 ls (.int x :: r) M = if ¬ x = 0 then rn 100 18 ls r M else rn 100 14 ls r M := r_if (o := 7) (r := r) (c := ¬ x = 0) (by decide +kernel : decode (mB 100) 11 = .ok (.ifCond .ne 7, 3)) rfl (by decide) rfl
theorem t100_14 : rn 100 14 ls r M = rn 100 15 ls (.int 1 :: r) M := r_nx (by decide +kernel : decode (mB 100) 14 = .ok (.iconst 1, 1)) rfl rfl
theorem t100_15 : rn 100 15 ls r M = rn 100 19 ls r M := r_goto (o := 4) (by decide +kernel : decode (mB 100) 15 = .ok (.goto 4, 3)) (by decide)
theorem t100_18 : rn 100 18 ls r M = rn 100 19 ls (.int 0 :: r) M := r_nx (by decide +kernel : decode (mB 100) 18 = .ok (.iconst 0, 1)) rfl rfl
theorem t100_19 : rn 100 19 ls r M = rn 100 21 ls (.int (-6) :: r) M := r_nx (by decide +kernel : decode (mB 100) 19 = .ok (.bipush (-6), 2)) rfl rfl
theorem t100_21 : rn 100 21 (a0 :: some (.int x) :: l) r M = rn 100 22 (a0 :: some (.int x) :: l) (.int x :: r) M := r_iload_n (by decide +kernel : decode (mB 100) 21 = .ok (.iload_n 1, 1)) rfl
theorem t100_22 : rn 100 22 ls (.int x :: r) M = if ¬ x = 0 then rn 100 29 ls r M else rn 100 25 ls r M := r_if (o := 7) (r := r) (c := ¬ x = 0) (by decide +kernel : decode (mB 100) 22 = .ok (.ifCond .ne 7, 3)) rfl (by decide) rfl
theorem t100_25 : rn 100 25 ls r M = rn 100 26 ls (.int 0 :: r) M := r_nx (by decide +kernel : decode (mB 100) 25 = .ok (.iconst 0, 1)) rfl rfl
theorem t100_26 : rn 100 26 ls r M = rn 100 31 ls r M := r_goto (o := 5) (by decide +kernel : decode (mB 100) 26 = .ok (.goto 5, 3)) (by decide)
theorem t100_29 : rn 100 29 ls r M = rn 100 31 ls (.int (-6) :: r) M := r_nx (by decide +kernel : decode (mB 100) 29 = .ok (.bipush (-6), 2)) rfl rfl
theorem t100_31 : rn 100 31 ls [.int x, .int y, .int z, .int w, .ref a] M = if mK M a = (19, 0) then cbn (cl 101 [.ref a, .int w, .int z, .int y, .int x] M) 100 34 ls [] else none := r_callV (kd := 0) (by decide +kernel : decode (mB 100) 31 = .ok (.invokevirtual 85, 3)) (by decide +kernel) ((doV_n np_101).trans rfl)
theorem t100_34 : rn 100 34 (a0 :: some (.int x) :: l) r M = rn 100 37 (a0 :: some (.int (x + 1)) :: l) r M := r_iinc (by decide +kernel : decode (mB 100) 34 = .ok (.iinc 1 1, 3)) rfl
theorem t100_37 : rn 100 37 ls r M = rn 100 2 ls r M := r_goto (o := (-35)) (by decide +kernel : decode (mB 100) 37 = .ok (.goto (-35), 3)) (by decide)
theorem t100_40 : rn 100 40 ls [] M = some (none, M) := r_vreturn (by decide +kernel : decode (mB 100) 40 = .ok (.return_, 1)) rfl
-- 101 DRModel_setFile(IIII)V
theorem t101_0 : rn 101 0 (some (.ref a) :: l) r M = rn 101 1 (some (.ref a) :: l) (.ref a :: r) M := r_aload_n (by decide +kernel : decode (mB 101) 0 = .ok (.aload_n 0, 1)) rfl
theorem t101_1 : rn 101 1 ls (.ref a :: r) M = if mK M a = (19, 0) then rn 101 4 ls (va_rf (mP M a 0) :: r) M else none := r_getP (ci := 9) (k := 0) (by decide +kernel : decode (mB 101) 1 = .ok (.getfield 7, 3)) (by decide +kernel) rfl
theorem t101_4 : rn 101 4 ls r M = rn 101 7 ls (.int 322 :: r) M := r_nx (by decide +kernel : decode (mB 101) 4 = .ok (.sipush 322, 3)) rfl rfl
theorem t101_7 : rn 101 7 ls r M = rn 101 8 ls (.int 3 :: r) M := r_nx (by decide +kernel : decode (mB 101) 7 = .ok (.iconst 3, 1)) rfl rfl
theorem t101_8 : rn 101 8 (a0 :: some (.int x) :: l) r M = rn 101 9 (a0 :: some (.int x) :: l) (.int x :: r) M := r_iload_n (by decide +kernel : decode (mB 101) 8 = .ok (.iload_n 1, 1)) rfl
theorem t101_9 : rn 101 9 ls (.int y :: .int x :: r) M = rn 101 10 ls (.int (x * y) :: r) M := r_nx (by decide +kernel : decode (mB 101) 9 = .ok (.imul, 1)) rfl rfl
theorem t101_10 : rn 101 10 ls (.int y :: .int x :: r) M = rn 101 11 ls (.int (x + y) :: r) M := r_nx (by decide +kernel : decode (mB 101) 10 = .ok (.iadd, 1)) rfl rfl
theorem t101_11 : rn 101 11 ls r M = rn 101 12 ls (.int 0 :: r) M := r_nx (by decide +kernel : decode (mB 101) 11 = .ok (.iconst 0, 1)) rfl rfl
theorem t101_12 : rn 101 12 ls (.int y :: .int x :: r) M = rn 101 13 ls (.int (x + y) :: r) M := r_nx (by decide +kernel : decode (mB 101) 12 = .ok (.iadd, 1)) rfl rfl
theorem t101_13 : rn 101 13 (a0 :: a1 :: some (.int x) :: l) r M = rn 101 14 (a0 :: a1 :: some (.int x) :: l) (.int x :: r) M := r_iload_n (by decide +kernel : decode (mB 101) 13 = .ok (.iload_n 2, 1)) rfl
theorem t101_14 : rn 101 14 ls (.int y :: .int x :: .ref a :: r) M = if (mK M a).1 = 1 ∧ inR x (mK M a).2 then rn 101 15 ls r (sI M a (va_up (mI M a) x.toNatClampNeg y)) else none := r_cnd (by decide +kernel : decode (mB 101) 14 = .ok (.iastore, 1)) rfl rfl
theorem t101_15 : rn 101 15 (some (.ref a) :: l) r M = rn 101 16 (some (.ref a) :: l) (.ref a :: r) M := r_aload_n (by decide +kernel : decode (mB 101) 15 = .ok (.aload_n 0, 1)) rfl
theorem t101_16 : rn 101 16 ls (.ref a :: r) M = if mK M a = (19, 0) then rn 101 19 ls (va_rf (mP M a 0) :: r) M else none := r_getP (ci := 9) (k := 0) (by decide +kernel : decode (mB 101) 16 = .ok (.getfield 7, 3)) (by decide +kernel) rfl
theorem t101_19 : rn 101 19 ls r M = rn 101 22 ls (.int 322 :: r) M := r_nx (by decide +kernel : decode (mB 101) 19 = .ok (.sipush 322, 3)) rfl rfl
theorem t101_22 : rn 101 22 ls r M = rn 101 23 ls (.int 3 :: r) M := r_nx (by decide +kernel : decode (mB 101) 22 = .ok (.iconst 3, 1)) rfl rfl
theorem t101_23 : rn 101 23 (a0 :: some (.int x) :: l) r M = rn 101 24 (a0 :: some (.int x) :: l) (.int x :: r) M := r_iload_n (by decide +kernel : decode (mB 101) 23 = .ok (.iload_n 1, 1)) rfl
theorem t101_24 : rn 101 24 ls (.int y :: .int x :: r) M = rn 101 25 ls (.int (x * y) :: r) M := r_nx (by decide +kernel : decode (mB 101) 24 = .ok (.imul, 1)) rfl rfl
theorem t101_25 : rn 101 25 ls (.int y :: .int x :: r) M = rn 101 26 ls (.int (x + y) :: r) M := r_nx (by decide +kernel : decode (mB 101) 25 = .ok (.iadd, 1)) rfl rfl
theorem t101_26 : rn 101 26 ls r M = rn 101 27 ls (.int 1 :: r) M := r_nx (by decide +kernel : decode (mB 101) 26 = .ok (.iconst 1, 1)) rfl rfl
theorem t101_27 : rn 101 27 ls (.int y :: .int x :: r) M = rn 101 28 ls (.int (x + y) :: r) M := r_nx (by decide +kernel : decode (mB 101) 27 = .ok (.iadd, 1)) rfl rfl
theorem t101_28 : rn 101 28 (a0 :: a1 :: a2 :: some (.int x) :: l) r M = rn 101 29 (a0 :: a1 :: a2 :: some (.int x) :: l) (.int x :: r) M := r_iload_n (by decide +kernel : decode (mB 101) 28 = .ok (.iload_n 3, 1)) rfl
theorem t101_29 : rn 101 29 ls (.int y :: .int x :: .ref a :: r) M = if (mK M a).1 = 1 ∧ inR x (mK M a).2 then rn 101 30 ls r (sI M a (va_up (mI M a) x.toNatClampNeg y)) else none := r_cnd (by decide +kernel : decode (mB 101) 29 = .ok (.iastore, 1)) rfl rfl
theorem t101_30 : rn 101 30 (some (.ref a) :: l) r M = rn 101 31 (some (.ref a) :: l) (.ref a :: r) M := r_aload_n (by decide +kernel : decode (mB 101) 30 = .ok (.aload_n 0, 1)) rfl
theorem t101_31 : rn 101 31 ls (.ref a :: r) M = if mK M a = (19, 0) then rn 101 34 ls (va_rf (mP M a 0) :: r) M else none := r_getP (ci := 9) (k := 0) (by decide +kernel : decode (mB 101) 31 = .ok (.getfield 7, 3)) (by decide +kernel) rfl
theorem t101_34 : rn 101 34 ls r M = rn 101 37 ls (.int 322 :: r) M := r_nx (by decide +kernel : decode (mB 101) 34 = .ok (.sipush 322, 3)) rfl rfl
theorem t101_37 : rn 101 37 ls r M = rn 101 38 ls (.int 3 :: r) M := r_nx (by decide +kernel : decode (mB 101) 37 = .ok (.iconst 3, 1)) rfl rfl
theorem t101_38 : rn 101 38 (a0 :: some (.int x) :: l) r M = rn 101 39 (a0 :: some (.int x) :: l) (.int x :: r) M := r_iload_n (by decide +kernel : decode (mB 101) 38 = .ok (.iload_n 1, 1)) rfl
theorem t101_39 : rn 101 39 ls (.int y :: .int x :: r) M = rn 101 40 ls (.int (x * y) :: r) M := r_nx (by decide +kernel : decode (mB 101) 39 = .ok (.imul, 1)) rfl rfl
theorem t101_40 : rn 101 40 ls (.int y :: .int x :: r) M = rn 101 41 ls (.int (x + y) :: r) M := r_nx (by decide +kernel : decode (mB 101) 40 = .ok (.iadd, 1)) rfl rfl
theorem t101_41 : rn 101 41 ls r M = rn 101 42 ls (.int 2 :: r) M := r_nx (by decide +kernel : decode (mB 101) 41 = .ok (.iconst 2, 1)) rfl rfl
theorem t101_42 : rn 101 42 ls (.int y :: .int x :: r) M = rn 101 43 ls (.int (x + y) :: r) M := r_nx (by decide +kernel : decode (mB 101) 42 = .ok (.iadd, 1)) rfl rfl
theorem t101_43 : rn 101 43 (a0 :: a1 :: a2 :: a3 :: some (.int x) :: l) r M = rn 101 45 (a0 :: a1 :: a2 :: a3 :: some (.int x) :: l) (.int x :: r) M := r_iload (by decide +kernel : decode (mB 101) 43 = .ok (.iload 4, 2)) rfl
theorem t101_45 : rn 101 45 ls (.int y :: .int x :: .ref a :: r) M = if (mK M a).1 = 1 ∧ inR x (mK M a).2 then rn 101 46 ls r (sI M a (va_up (mI M a) x.toNatClampNeg y)) else none := r_cnd (by decide +kernel : decode (mB 101) 45 = .ok (.iastore, 1)) rfl rfl
theorem t101_46 : rn 101 46 ls [] M = some (none, M) := r_vreturn (by decide +kernel : decode (mB 101) 46 = .ok (.return_, 1)) rfl
-- 102 DRModel_make(II)I
theorem t102_0 : rn 102 0 (some (.ref a) :: l) r M = rn 102 1 (some (.ref a) :: l) (.ref a :: r) M := r_aload_n (by decide +kernel : decode (mB 102) 0 = .ok (.aload_n 0, 1)) rfl
theorem t102_1 : rn 102 1 (a0 :: some (.int x) :: l) r M = rn 102 2 (a0 :: some (.int x) :: l) (.int x :: r) M := r_iload_n (by decide +kernel : decode (mB 102) 1 = .ok (.iload_n 1, 1)) rfl
theorem t102_2 : rn 102 2 (a0 :: a1 :: some (.int x) :: l) r M = rn 102 3 (a0 :: a1 :: some (.int x) :: l) (.int x :: r) M := r_iload_n (by decide +kernel : decode (mB 102) 2 = .ok (.iload_n 2, 1)) rfl
theorem t102_3 : rn 102 3 ls r M = rn 102 4 ls (.int 0 :: r) M := r_nx (by decide +kernel : decode (mB 102) 3 = .ok (.iconst 0, 1)) rfl rfl
theorem t102_4 : rn 102 4 ls [.int x, .int y, .int z, .ref a] M = if mK M a = (19, 0) then cbn (cl 103 [.ref a, .int z, .int y, .int x] M) 102 7 ls [] else none := r_callV (kd := 0) (by decide +kernel : decode (mB 102) 4 = .ok (.invokevirtual 129, 3)) (by decide +kernel) ((doV_n np_103).trans rfl)
theorem t102_7 : rn 102 7 (a0 :: a1 :: a2 :: a3 :: l) (.int x :: r) M = rn 102 8 (a0 :: a1 :: a2 :: some (.int x) :: l) r M := r_istore_n (by decide +kernel : decode (mB 102) 7 = .ok (.istore_n 3, 1)) (Nat.le_add_left 4 l.length)
theorem t102_8 : rn 102 8 (a0 :: a1 :: a2 :: some (.int x) :: l) r M = rn 102 9 (a0 :: a1 :: a2 :: some (.int x) :: l) (.int x :: r) M := r_iload_n (by decide +kernel : decode (mB 102) 8 = .ok (.iload_n 3, 1)) rfl
theorem t102_9 : rn 102 9 ls (.int x :: r) M = if 0 ≤ x then rn 102 14 ls r M else rn 102 12 ls r M := r_if (o := 5) (r := r) (c := 0 ≤ x) (by decide +kernel : decode (mB 102) 9 = .ok (.ifCond .ge 5, 3)) rfl (by decide) rfl
theorem t102_12 : rn 102 12 (a0 :: a1 :: a2 :: some (.int x) :: l) r M = rn 102 13 (a0 :: a1 :: a2 :: some (.int x) :: l) (.int x :: r) M := r_iload_n (by decide +kernel : decode (mB 102) 12 = .ok (.iload_n 3, 1)) rfl
theorem t102_13 : rn 102 13 ls [.int x] M = some (some (.int x), M) := r_ireturn (by decide +kernel : decode (mB 102) 13 = .ok (.ireturn, 1)) rfl
theorem t102_14 : rn 102 14 (some (.ref a) :: l) r M = rn 102 15 (some (.ref a) :: l) (.ref a :: r) M := r_aload_n (by decide +kernel : decode (mB 102) 14 = .ok (.aload_n 0, 1)) rfl
theorem t102_15 : rn 102 15 ls [.ref a] M = if mK M a = (19, 0) then cbn (cl 106 [.ref a] M) 102 18 ls [] else none := r_callV (kd := 0) (by decide +kernel : decode (mB 102) 15 = .ok (.invokevirtual 133, 3)) (by decide +kernel) ((doV_n np_106).trans rfl)
theorem t102_18 : rn 102 18 (some (.ref a) :: l) r M = rn 102 19 (some (.ref a) :: l) (.ref a :: r) M := r_aload_n (by decide +kernel : decode (mB 102) 18 = .ok (.aload_n 0, 1)) rfl
theorem t102_19 : rn 102 19 ls r M = rn 102 20 ls (.int 0 :: r) M := r_nx (by decide +kernel : decode (mB 102) 19 = .ok (.iconst 0, 1)) rfl rfl
theorem t102_20 : rn 102 20 (a0 :: some (.int x) :: l) r M = rn 102 21 (a0 :: some (.int x) :: l) (.int x :: r) M := r_iload_n (by decide +kernel : decode (mB 102) 20 = .ok (.iload_n 1, 1)) rfl
theorem t102_21 : rn 102 21 (a0 :: a1 :: some (.int x) :: l) r M = rn 102 22 (a0 :: a1 :: some (.int x) :: l) (.int x :: r) M := r_iload_n (by decide +kernel : decode (mB 102) 21 = .ok (.iload_n 2, 1)) rfl
theorem t102_22 : rn 102 22 ls [.int x, .int y, .int z, .ref a] M = if mK M a = (19, 0) then cbn (cl 108 [.ref a, .int z, .int y, .int x] M) 102 25 ls [] else none := r_callV (kd := 0) (by decide +kernel : decode (mB 102) 22 = .ok (.invokevirtual 136, 3)) (by decide +kernel) ((doV_n np_108).trans rfl)
theorem t102_25 : rn 102 25 ls [.int x] M = some (some (.int x), M) := r_ireturn (by decide +kernel : decode (mB 102) 25 = .ok (.ireturn, 1)) rfl
-- 103 DRModel_whyNotWritten(III)I
theorem t103_0 : rn 103 0 (a0 :: some (.int x) :: l) r M = rn 103 1 (a0 :: some (.int x) :: l) (.int x :: r) M := r_iload_n (by decide +kernel : decode (mB 103) 0 = .ok (.iload_n 1, 1)) rfl
theorem t103_1 : rn 103 1 ls r M = rn 103 2 ls (.int 1 :: r) M := r_nx (by decide +kernel : decode (mB 103) 1 = .ok (.iconst 1, 1)) rfl rfl
theorem t103_2 : rn 103 2 ls r M = rn 103 4 ls (.int 15 :: r) M := r_nx (by decide +kernel : decode (mB 103) 2 = .ok (.bipush 15, 2)) rfl rfl
theorem t103_4 : rn 103 4 ls [.int x, .int y, .int z] M = cbn (cl 104 [.int z, .int y, .int x] M) 103 7 ls [] := r_callS (kd := 2) (by decide +kernel : decode (mB 103) 4 = .ok (.invokestatic 49, 3)) (by decide +kernel) (by decide +kernel) ((doS_n np_104).trans rfl)
theorem t103_7 : rn 103 7 ls (.int x :: r) M = if x = 0 then rn 103 17 ls r M else rn 103 10 ls r M := r_if (o := 10) (r := r) (c := x = 0) (by decide +kernel : decode (mB 103) 7 = .ok (.ifCond .eq 10, 3)) rfl (by decide) rfl
theorem t103_10 : rn 103 10 (a0 :: a1 :: some (.int x) :: l) r M = rn 103 11 (a0 :: a1 :: some (.int x) :: l) (.int x :: r) M := r_iload_n (by decide +kernel : decode (mB 103) 10 = .ok (.iload_n 2, 1)) rfl
theorem t103_11 : rn 103 11 ls [.int x] M = cbn (cl 105 [.int x] M) 103 14 ls [] := r_callS (kd := 2) (by decide +kernel : decode (mB 103) 11 = .ok (.invokestatic 126, 3)) (by decide +kernel) (by decide +kernel) ((doS_n np_105).trans rfl)
theorem t103_14 : rn 103 14 ls (.int x :: r) M = if ¬ x = 0 then rn 103 19 ls r M else rn 103 17 ls r M := r_if (o := 5) (r := r) (c := ¬ x = 0) (by decide +kernel : decode (mB 103) 14 = .ok (.ifCond .ne 5, 3)) rfl (by decide) rfl
theorem t103_17 : rn 103 17 ls r M = rn 103 18 ls (.int (-1) :: r) M := r_nx (by decide +kernel : decode (mB 103) 17 = .ok (.iconst (-1), 1)) rfl rfl
theorem t103_18 : rn 103 18 ls [.int x] M = some (some (.int x), M) := r_ireturn (by decide +kernel : decode (mB 103) 18 = .ok (.ireturn, 1)) rfl
theorem t103_19 : rn 103 19 (a0 :: a1 :: a2 :: some (.int x) :: l) r M = rn 103 20 (a0 :: a1 :: a2 :: some (.int x) :: l) (.int x :: r) M := r_iload_n (by decide +kernel : decode (mB 103) 19 = .ok (.iload_n 3, 1)) rfl
theorem t103_20 : rn 103 20 ls r M = rn 103 21 ls (.int 0 :: r) M := r_nx (by decide +kernel : decode (mB 103) 20 = .ok (.iconst 0, 1)) rfl rfl
theorem t103_21 : rn 103 21 ls r M = rn 103 24 ls (.int 999 :: r) M := r_nx (by decide +kernel : decode (mB 103) 21 = .ok (.sipush 999, 3)) rfl rfl
theorem t103_24 : rn 103 24 ls [.int x, .int y, .int z] M = cbn (cl 104 [.int z, .int y, .int x] M) 103 27 ls [] := r_callS (kd := 2) (by decide +kernel : decode (mB 103) 24 = .ok (.invokestatic 49, 3)) (by decide +kernel) (by decide +kernel) ((doS_n np_104).trans rfl)
theorem t103_27 : rn 103 27 ls (.int x :: r) M = if ¬ x = 0 then rn 103 35 ls r M else rn 103 30 ls r M := r_if (o := 8) (r := r) (c := ¬ x = 0) (by decide +kernel : decode (mB 103) 27 = .ok (.ifCond .ne 8, 3)) rfl (by decide) rfl
theorem t103_30 : rn 103 30 ls r M = rn 103 32 ls (.int (-2) :: r) M := r_nx (by decide +kernel : decode (mB 103) 30 = .ok (.bipush (-2), 2)) rfl rfl
theorem t103_32 : rn 103 32 ls r M = rn 103 52 ls r M := r_goto (o := 20) (by decide +kernel : decode (mB 103) 32 = .ok (.goto 20, 3)) (by decide)
theorem t103_35 : rn 103 35 (some (.ref a) :: l) r M = rn 103 36 (some (.ref a) :: l) (.ref a :: r) M := r_aload_n (by decide +kernel : decode (mB 103) 35 = .ok (.aload_n 0, 1)) rfl
theorem t103_36 : rn 103 36 ls (.ref a :: r) M = if mK M a = (19, 0) then rn 103 39 ls (va_rf (mP M a 0) :: r) M else none := r_getP (ci := 9) (k := 0) (by decide +kernel : decode (mB 103) 36 = .ok (.getfield 7, 3)) (by decide +kernel) rfl
theorem t103_39 : rn 103 39 ls r M = rn 103 40 ls (.int 0 :: r) M := r_nx (by decide +kernel : decode (mB 103) 39 = .ok (.iconst 0, 1)) rfl rfl
theorem t103_40 : rn 103 40 ls (.int x :: .ref a :: r) M = if ((mK M a).1 = 1 ∨ (mK M a).1 = 5) ∧ inR x (mK M a).2 then rn 103 41 ls (.int (mI M a x.toNatClampNeg) :: r) M else none := r_cnd (by decide +kernel : decode (mB 103) 40 = .ok (.iaload, 1)) rfl rfl
theorem t103_41 : rn 103 41 ls r M = rn 103 43 ls (.int 40 :: r) M := r_nx (by decide +kernel : decode (mB 103) 41 = .ok (.bipush 40, 2)) rfl rfl
theorem t103_43 : rn 103 43 ls (.int y :: .int x :: r) M = if ¬ x = y then rn 103 51 ls r M else rn 103 46 ls r M := r_if (o := 8) (r := r) (c := ¬ x = y) (by decide +kernel : decode (mB 103) 43 = .ok (.if_icmp .ne 8, 3)) rfl (by decide) rfl
theorem t103_46 : rn 103 46 ls r M = rn 103 48 ls (.int (-4) :: r) M := r_nx (by decide +kernel : decode (mB 103) 46 = .ok (.bipush (-4), 2)) rfl rfl
theorem t103_48 : rn 103 48 ls r M = rn 103 52 ls r M := r_goto (o := 4) (by decide +kernel : decode (mB 103) 48 = .ok (.goto 4, 3)) (by decide)
theorem t103_51 : rn 103 51 ls r M = rn 103 52 ls (.int 0 :: r) M := r_nx (by decide +kernel : decode (mB 103) 51 = .ok (.iconst 0, 1)) rfl rfl
theorem t103_52 : rn 103 52 ls [.int x] M = some (some (.int x), M) := r_ireturn (by decide +kernel : decode (mB 103) 52 = .ok (.ireturn, 1)) rfl
-- 104 DRModel_within(III)Z
theorem t104_0 : rn 104 0 (some (.int x) :: l) r M = rn 104 1 (some (.int x) :: l) (.int x :: r) M := r_iload_n (by decide +kernel : decode (mB 104) 0 = .ok (.iload_n 0, 1)) rfl
theorem t104_1 : rn 104 1 (a0 :: some (.int x) :: l) r M = rn 104 2 (a0 :: some (.int x) :: l) (.int x :: r) M := r_iload_n (by decide +kernel : decode (mB 104) 1 = .ok (.iload_n 1, 1)) rfl
theorem t104_2 : rn 104 2 ls (.int y :: .int x :: r) M = if x < y then rn 104 14 ls r M else rn 104 5 ls r M := r_if (o := 12) (r := r) (c := x < y) (by decide +kernel : decode (mB 104) 2 = .ok (.if_icmp .lt 12, 3)) rfl (by decide) rfl
theorem t104_5 : rn 104 5 (some (.int x) :: l) r M = rn 104 6 (some (.int x) :: l) (.int x :: r) M := r_iload_n (by decide +kernel : decode (mB 104) 5 = .ok (.iload_n 0, 1)) rfl
theorem t104_6 : rn 104 6 (a0 :: a1 :: some (.int x) :: l) r M = rn 104 7 (a0 :: a1 :: some (.int x) :: l) (.int x :: r) M := r_iload_n (by decide +kernel : decode (mB 104) 6 = .ok (.iload_n 2, 1)) rfl
theorem t104_7 : rn 104 7 ls (.int y :: .int x :: r) M = if y < x then rn 104 14 ls r M else rn 104 10 ls r M := r_if (o := 7) (r := r) (c := y < x) (by decide +kernel : decode (mB 104) 7 = .ok (.if_icmp .gt 7, 3)) rfl (by decide) rfl
theorem t104_10 : rn 104 10 ls r M = rn 104 11 ls (.int 1 :: r) M := r_nx (by decide +kernel : decode (mB 104) 10 = .ok (.iconst 1, 1)) rfl rfl
theorem t104_11 : rn 104 11 ls r M = rn 104 15 ls r M := r_goto (o := 4) (by decide +kernel : decode (mB 104) 11 = .ok (.goto 4, 3)) (by decide)
theorem t104_14 : rn 104 14 ls r M = rn 104 15 ls (.int 0 :: r) M := r_nx (by decide +kernel : decode (mB 104) 14 = .ok (.iconst 0, 1)) rfl rfl
theorem t104_15 : rn 104 15 ls [.int x] M = if x = 0 ∨ x = 1 then some (some (.int x), M) else none := r_zreturn (by decide +kernel : decode (mB 104) 15 = .ok (.ireturn, 1)) rfl
-- 105 DRModel_isFile(I)Z
theorem t105_0 : rn 105 0 (some (.int x) :: l) r M = rn 105 1 (some (.int x) :: l) (.int x :: r) M := r_iload_n (by decide +kernel : decode (mB 105) 0 = .ok (.iload_n 0, 1)) rfl
theorem t105_1 : rn 105 1 ls r M = rn 105 2 ls (.int 0 :: r) M := r_nx (by decide +kernel : decode (mB 105) 1 = .ok (.iconst 0, 1)) rfl rfl
theorem t105_2 : rn 105 2 ls r M = rn 105 4 ls (.int 15 :: r) M := r_nx (by decide +kernel : decode (mB 105) 2 = .ok (.bipush 15, 2)) rfl rfl
theorem t105_4 : rn 105 4 ls [.int x, .int y, .int z] M = cbn (cl 104 [.int z, .int y, .int x] M) 105 7 ls [] := r_callS (kd := 2) (by decide +kernel : decode (mB 105) 4 = .ok (.invokestatic 49, 3)) (by decide +kernel) (by decide +kernel) ((doS_n np_104).trans rfl)
theorem t105_7 : rn 105 7 ls [.int x] M = if x = 0 ∨ x = 1 then some (some (.int x), M) else none := r_zreturn (by decide +kernel : decode (mB 105) 7 = .ok (.ireturn, 1)) rfl
-- 106 DRModel_record()V
theorem t106_0 : rn 106 0 (some (.ref a) :: l) r M = rn 106 1 (some (.ref a) :: l) (.ref a :: r) M := r_aload_n (by decide +kernel : decode (mB 106) 0 = .ok (.aload_n 0, 1)) rfl
theorem t106_1 : rn 106 1 ls (.ref a :: r) M = if mK M a = (19, 0) then rn 106 4 ls (.int (mI M a 3) :: r) M else none := r_getI (ci := 9) (k := 3) (by decide +kernel : decode (mB 106) 1 = .ok (.getfield 41, 3)) (by decide +kernel) (Or.inl rfl)
theorem t106_4 : rn 106 4 ls r M = rn 106 6 ls (.int 6 :: r) M := r_nx (by decide +kernel : decode (mB 106) 4 = .ok (.bipush 6, 2)) rfl rfl
theorem t106_6 : rn 106 6 ls (.int y :: .int x :: r) M = if ¬ x = y then rn 106 50 ls r M else rn 106 9 ls r M := r_if (o := 44) (r := r) (c := ¬ x = y) (by decide +kernel : decode (mB 106) 6 = .ok (.if_icmp .ne 44, 3)) rfl (by decide) rfl
theorem t106_9 : rn 106 9 ls r M = rn 106 10 ls (.int 0 :: r) M := r_nx (by decide +kernel : decode (mB 106) 9 = .ok (.iconst 0, 1)) rfl rfl
theorem t106_10 : rn 106 10 (a0 :: a1 :: l) (.int x :: r) M = rn 106 11 (a0 :: some (.int x) :: l) r M := r_istore_n (by decide +kernel : decode (mB 106) 10 = .ok (.istore_n 1, 1)) (Nat.le_add_left 2 l.length)
theorem t106_11 : rn 106 11 (a0 :: some (.int x) :: l) r M = rn 106 12 (a0 :: some (.int x) :: l) (.int x :: r) M := r_iload_n (by decide +kernel : decode (mB 106) 11 = .ok (.iload_n 1, 1)) rfl
theorem t106_12 : rn 106 12 ls r M = rn 106 15 ls (.int 1850 :: r) M := r_nx (by decide +kernel : decode (mB 106) 12 = .ok (.sipush 1850, 3)) rfl rfl
theorem t106_15 : rn 106 15 ls (.int y :: .int x :: r) M = if y ≤ x then rn 106 40 ls r M else rn 106 18 ls r M := r_if (o := 25) (r := r) (c := y ≤ x) (by decide +kernel : decode (mB 106) 15 = .ok (.if_icmp .ge 25, 3)) rfl (by decide) rfl
theorem t106_18 : rn 106 18 (some (.ref a) :: l) r M = rn 106 19 (some (.ref a) :: l) (.ref a :: r) M := r_aload_n (by decide +kernel : decode (mB 106) 18 = .ok (.aload_n 0, 1)) rfl
theorem t106_19 : rn 106 19 ls (.ref a :: r) M = if mK M a = (19, 0) then rn 106 22 ls (va_rf (mP M a 2) :: r) M else none := r_getP (ci := 9) (k := 2) (by decide +kernel : decode (mB 106) 19 = .ok (.getfield 16, 3)) (by decide +kernel) rfl
theorem t106_22 : rn 106 22 (a0 :: some (.int x) :: l) r M = rn 106 23 (a0 :: some (.int x) :: l) (.int x :: r) M := r_iload_n (by decide +kernel : decode (mB 106) 22 = .ok (.iload_n 1, 1)) rfl
theorem t106_23 : rn 106 23 (some (.ref a) :: l) r M = rn 106 24 (some (.ref a) :: l) (.ref a :: r) M := r_aload_n (by decide +kernel : decode (mB 106) 23 = .ok (.aload_n 0, 1)) rfl
theorem t106_24 : rn 106 24 ls (.ref a :: r) M = if mK M a = (19, 0) then rn 106 27 ls (va_rf (mP M a 2) :: r) M else none := r_getP (ci := 9) (k := 2) (by decide +kernel : decode (mB 106) 24 = .ok (.getfield 16, 3)) (by decide +kernel) rfl
theorem t106_27 : rn 106 27 (a0 :: some (.int x) :: l) r M = rn 106 28 (a0 :: some (.int x) :: l) (.int x :: r) M := r_iload_n (by decide +kernel : decode (mB 106) 27 = .ok (.iload_n 1, 1)) rfl
theorem t106_28 : rn 106 28 ls r M = rn 106 31 ls (.int 370 :: r) M := r_nx (by decide +kernel : decode (mB 106) 28 = .ok (.sipush 370, 3)) rfl rfl
theorem t106_31 : rn 106 31 ls (.int y :: .int x :: r) M = rn 106 32 ls (.int (x + y) :: r) M := r_nx (by decide +kernel : decode (mB 106) 31 = .ok (.iadd, 1)) rfl rfl
theorem t106_32 : rn 106 32 ls (.int x :: .ref a :: r) M = if ((mK M a).1 = 1 ∨ (mK M a).1 = 5) ∧ inR x (mK M a).2 then rn 106 33 ls (.int (mI M a x.toNatClampNeg) :: r) M else none := r_cnd (by decide +kernel : decode (mB 106) 32 = .ok (.iaload, 1)) rfl rfl
theorem t106_33 : rn 106 33 ls (.int y :: .int x :: .ref a :: r) M = if (mK M a).1 = 1 ∧ inR x (mK M a).2 then rn 106 34 ls r (sI M a (va_up (mI M a) x.toNatClampNeg y)) else none := r_cnd (by decide +kernel : decode (mB 106) 33 = .ok (.iastore, 1)) rfl rfl
theorem t106_34 : rn 106 34 (a0 :: some (.int x) :: l) r M = rn 106 37 (a0 :: some (.int (x + 1)) :: l) r M := r_iinc (by decide +kernel : decode (mB 106) 34 = .ok (.iinc 1 1, 3)) rfl
theorem t106_37 : rn 106 37 ls r M = rn 106 11 ls r M := r_goto (o := (-26)) (by decide +kernel : decode (mB 106) 37 = .ok (.goto (-26), 3)) (by decide)
theorem t106_40 : rn 106 40 (some (.ref a) :: l) r M = rn 106 41 (some (.ref a) :: l) (.ref a :: r) M := r_aload_n (by decide +kernel : decode (mB 106) 40 = .ok (.aload_n 0, 1)) rfl
theorem t106_41 : rn 106 41 ls (.ref a :: r) M = rn 106 42 ls (.ref a :: .ref a :: r) M := r_nx (by decide +kernel : decode (mB 106) 41 = .ok (.dup, 1)) rfl rfl
theorem t106_42 : rn 106 42 ls (.ref a :: r) M = if mK M a = (19, 0) then rn 106 45 ls (.int (mI M a 3) :: r) M else none := r_getI (ci := 9) (k := 3) (by decide +kernel : decode (mB 106) 42 = .ok (.getfield 41, 3)) (by decide +kernel) (Or.inl rfl)
theorem t106_45 : rn 106 45 ls r M = rn 106 46 ls (.int 1 :: r) M := r_nx (by decide +kernel : decode (mB 106) 45 = .ok (.iconst 1, 1)) rfl rfl
theorem t106_46 : rn 106 46 ls (.int y :: .int x :: r) M = rn 106 47 ls (.int (x - y) :: r) M := r_nx (by decide +kernel : decode (mB 106) 46 = .ok (.isub, 1)) rfl rfl
theorem t106_47 : rn 106 47 ls (.int x :: .ref a :: r) M = if mK M a = (19, 0) then rn 106 50 ls r (sI M a (va_up (mI M a) 3 x)) else none := r_putI (ci := 9) (k := 3) (by decide +kernel : decode (mB 106) 47 = .ok (.putfield 41, 3)) (by decide +kernel) rfl rfl
theorem t106_50 : rn 106 50 (some (.ref a) :: l) r M = rn 106 51 (some (.ref a) :: l) (.ref a :: r) M := r_aload_n (by decide +kernel : decode (mB 106) 50 = .ok (.aload_n 0, 1)) rfl
theorem t106_51 : rn 106 51 ls (.ref a :: r) M = if mK M a = (19, 0) then rn 106 54 ls (va_rf (mP M a 0) :: r) M else none := r_getP (ci := 9) (k := 0) (by decide +kernel : decode (mB 106) 51 = .ok (.getfield 7, 3)) (by decide +kernel) rfl
theorem t106_54 : rn 106 54 ls r M = rn 106 55 ls (.int 0 :: r) M := r_nx (by decide +kernel : decode (mB 106) 54 = .ok (.iconst 0, 1)) rfl rfl
theorem t106_55 : rn 106 55 (some (.ref a) :: l) r M = rn 106 56 (some (.ref a) :: l) (.ref a :: r) M := r_aload_n (by decide +kernel : decode (mB 106) 55 = .ok (.aload_n 0, 1)) rfl
theorem t106_56 : rn 106 56 ls (.ref a :: r) M = if mK M a = (19, 0) then rn 106 59 ls (va_rf (mP M a 2) :: r) M else none := r_getP (ci := 9) (k := 2) (by decide +kernel : decode (mB 106) 56 = .ok (.getfield 16, 3)) (by decide +kernel) rfl
theorem t106_59 : rn 106 59 (some (.ref a) :: l) r M = rn 106 60 (some (.ref a) :: l) (.ref a :: r) M := r_aload_n (by decide +kernel : decode (mB 106) 59 = .ok (.aload_n 0, 1)) rfl
theorem t106_60 : rn 106 60 ls (.ref a :: r) M = if mK M a = (19, 0) then rn 106 63 ls (.int (mI M a 3) :: r) M else none := r_getI (ci := 9) (k := 3) (by decide +kernel : decode (mB 106) 60 = .ok (.getfield 41, 3)) (by decide +kernel) (Or.inl rfl)
theorem t106_63 : rn 106 63 ls r M = rn 106 66 ls (.int 370 :: r) M := r_nx (by decide +kernel : decode (mB 106) 63 = .ok (.sipush 370, 3)) rfl rfl
theorem t106_66 : rn 106 66 ls (.int y :: .int x :: r) M = rn 106 67 ls (.int (x * y) :: r) M := r_nx (by decide +kernel : decode (mB 106) 66 = .ok (.imul, 1)) rfl rfl
theorem t106_67 : rn 106 67 ls [.int x, .ref a, .int y, .ref b] M = cbn (cl 107 [.ref b, .int y, .ref a, .int x] M) 106 70 ls [] := r_callS (kd := 2) (by decide +kernel : decode (mB 106) 67 = .ok (.invokestatic 45, 3)) (by decide +kernel) (by decide +kernel) ((doS_n np_107).trans rfl)
theorem t106_70 : rn 106 70 (some (.ref a) :: l) r M = rn 106 71 (some (.ref a) :: l) (.ref a :: r) M := r_aload_n (by decide +kernel : decode (mB 106) 70 = .ok (.aload_n 0, 1)) rfl
theorem t106_71 : rn 106 71 ls (.ref a :: r) M = rn 106 72 ls (.ref a :: .ref a :: r) M := r_nx (by decide +kernel : decode (mB 106) 71 = .ok (.dup, 1)) rfl rfl
theorem t106_72 : rn 106 72 ls (.ref a :: r) M = if mK M a = (19, 0) then rn 106 75 ls (.int (mI M a 3) :: r) M else none := r_getI (ci := 9) (k := 3) (by decide +kernel : decode (mB 106) 72 = .ok (.getfield 41, 3)) (by decide +kernel) (Or.inl rfl)
theorem t106_75 : rn 106 75 ls r M = rn 106 76 ls (.int 1 :: r) M := r_nx (by decide +kernel : decode (mB 106) 75 = .ok (.iconst 1, 1)) rfl rfl
theorem t106_76 : rn 106 76 ls (.int y :: .int x :: r) M = rn 106 77 ls (.int (x + y) :: r) M := r_nx (by decide +kernel : decode (mB 106) 76 = .ok (.iadd, 1)) rfl rfl
theorem t106_77 : rn 106 77 ls (.int x :: .ref a :: r) M = if mK M a = (19, 0) then rn 106 80 ls r (sI M a (va_up (mI M a) 3 x)) else none := r_putI (ci := 9) (k := 3) (by decide +kernel : decode (mB 106) 77 = .ok (.putfield 41, 3)) (by decide +kernel) rfl rfl
theorem t106_80 : rn 106 80 ls [] M = some (none, M) := r_vreturn (by decide +kernel : decode (mB 106) 80 = .ok (.return_, 1)) rfl
-- 107 DRModel_moves([II[II)V
theorem t107_0 : rn 107 0 ls r M = rn 107 1 ls (.int 0 :: r) M := r_nx (by decide +kernel : decode (mB 107) 0 = .ok (.iconst 0, 1)) rfl rfl
theorem t107_1 : rn 107 1 (a0 :: a1 :: a2 :: a3 :: a4 :: l) (.int x :: r) M = rn 107 3 (a0 :: a1 :: a2 :: a3 :: some (.int x) :: l) r M := r_istore (by decide +kernel : decode (mB 107) 1 = .ok (.istore 4, 2)) (Nat.le_add_left 5 l.length)
theorem t107_3 : rn 107 3 (a0 :: a1 :: a2 :: a3 :: some (.int x) :: l) r M = rn 107 5 (a0 :: a1 :: a2 :: a3 :: some (.int x) :: l) (.int x :: r) M := r_iload (by decide +kernel : decode (mB 107) 3 = .ok (.iload 4, 2)) rfl
theorem t107_5 : rn 107 5 ls r M = rn 107 8 ls (.int 370 :: r) M := r_nx (by decide +kernel : decode (mB 107) 5 = .ok (.sipush 370, 3)) rfl rfl
theorem t107_8 : rn 107 8 ls (.int y :: .int x :: r) M = if y ≤ x then rn 107 29 ls r M else rn 107 11 ls r M := r_if (o := 21) (r := r) (c := y ≤ x) (by decide +kernel : decode (mB 107) 8 = .ok (.if_icmp .ge 21, 3)) rfl (by decide) rfl
theorem t107_11 : rn 107 11 (a0 :: a1 :: some (.ref a) :: l) r M = rn 107 12 (a0 :: a1 :: some (.ref a) :: l) (.ref a :: r) M := r_aload_n (by decide +kernel : decode (mB 107) 11 = .ok (.aload_n 2, 1)) rfl
theorem t107_12 : rn 107 12 (a0 :: a1 :: a2 :: some (.int x) :: l) r M = rn 107 13 (a0 :: a1 :: a2 :: some (.int x) :: l) (.int x :: r) M := r_iload_n (by decide +kernel : decode (mB 107) 12 = .ok (.iload_n 3, 1)) rfl
theorem t107_13 : rn 107 13 (a0 :: a1 :: a2 :: a3 :: some (.int x) :: l) r M = rn 107 15 (a0 :: a1 :: a2 :: a3 :: some (.int x) :: l) (.int x :: r) M := r_iload (by decide +kernel : decode (mB 107) 13 = .ok (.iload 4, 2)) rfl
theorem t107_15 : rn 107 15 ls (.int y :: .int x :: r) M = rn 107 16 ls (.int (x + y) :: r) M := r_nx (by decide +kernel : decode (mB 107) 15 = .ok (.iadd, 1)) rfl rfl
theorem t107_16 : rn 107 16 (some (.ref a) :: l) r M = rn 107 17 (some (.ref a) :: l) (.ref a :: r) M := r_aload_n (by decide +kernel : decode (mB 107) 16 = .ok (.aload_n 0, 1)) rfl
theorem t107_17 : rn 107 17 (a0 :: some (.int x) :: l) r M = rn 107 18 (a0 :: some (.int x) :: l) (.int x :: r) M := r_iload_n (by decide +kernel : decode (mB 107) 17 = .ok (.iload_n 1, 1)) rfl
theorem t107_18 : rn 107 18 (a0 :: a1 :: a2 :: a3 :: some (.int x) :: l) r M = rn 107 20 (a0 :: a1 :: a2 :: a3 :: some (.int x) :: l) (.int x :: r) M := r_iload (by decide +kernel : decode (mB 107) 18 = .ok (.iload 4, 2)) rfl
theorem t107_20 : rn 107 20 ls (.int y :: .int x :: r) M = rn 107 21 ls (.int (x + y) :: r) M := r_nx (by decide +kernel : decode (mB 107) 20 = .ok (.iadd, 1)) rfl rfl
theorem t107_21 : rn 107 21 ls (.int x :: .ref a :: r) M = if ((mK M a).1 = 1 ∨ (mK M a).1 = 5) ∧ inR x (mK M a).2 then rn 107 22 ls (.int (mI M a x.toNatClampNeg) :: r) M else none := r_cnd (by decide +kernel : decode (mB 107) 21 = .ok (.iaload, 1)) rfl rfl
theorem t107_22 : rn 107 22 ls (.int y :: .int x :: .ref a :: r) M = if (mK M a).1 = 1 ∧ inR x (mK M a).2 then rn 107 23 ls r (sI M a (va_up (mI M a) x.toNatClampNeg y)) else none := r_cnd (by decide +kernel : decode (mB 107) 22 = .ok (.iastore, 1)) rfl rfl
theorem t107_23 : rn 107 23 (a0 :: a1 :: a2 :: a3 :: some (.int x) :: l) r M = rn 107 26 (a0 :: a1 :: a2 :: a3 :: some (.int (x + 1)) :: l) r M := r_iinc (by decide +kernel : decode (mB 107) 23 = .ok (.iinc 4 1, 3)) rfl
theorem t107_26 : rn 107 26 ls r M = rn 107 3 ls r M := r_goto (o := (-23)) (by decide +kernel : decode (mB 107) 26 = .ok (.goto (-23), 3)) (by decide)
theorem t107_29 : rn 107 29 ls [] M = some (none, M) := r_vreturn (by decide +kernel : decode (mB 107) 29 = .ok (.return_, 1)) rfl
-- 108 DRModel_written(III)I
theorem t108_0 : rn 108 0 (some (.ref a) :: l) r M = rn 108 1 (some (.ref a) :: l) (.ref a :: r) M := r_aload_n (by decide +kernel : decode (mB 108) 0 = .ok (.aload_n 0, 1)) rfl
theorem t108_1 : rn 108 1 ls (.ref a :: r) M = if mK M a = (19, 0) then rn 108 4 ls (va_rf (mP M a 0) :: r) M else none := r_getP (ci := 9) (k := 0) (by decide +kernel : decode (mB 108) 1 = .ok (.getfield 7, 3)) (by decide +kernel) rfl
theorem t108_4 : rn 108 4 ls r M = rn 108 5 ls (.int 0 :: r) M := r_nx (by decide +kernel : decode (mB 108) 4 = .ok (.iconst 0, 1)) rfl rfl
theorem t108_5 : rn 108 5 ls (.int x :: .ref a :: r) M = if ((mK M a).1 = 1 ∨ (mK M a).1 = 5) ∧ inR x (mK M a).2 then rn 108 6 ls (.int (mI M a x.toNatClampNeg) :: r) M else none := r_cnd (by decide +kernel : decode (mB 108) 5 = .ok (.iaload, 1)) rfl rfl
theorem t108_6 : rn 108 6 (a0 :: a1 :: a2 :: a3 :: a4 :: l) (.int x :: r) M = rn 108 8 (a0 :: a1 :: a2 :: a3 :: some (.int x) :: l) r M := r_istore (by decide +kernel : decode (mB 108) 6 = .ok (.istore 4, 2)) (Nat.le_add_left 5 l.length)
theorem t108_8 : rn 108 8 (some (.ref a) :: l) r M = rn 108 9 (some (.ref a) :: l) (.ref a :: r) M := r_aload_n (by decide +kernel : decode (mB 108) 8 = .ok (.aload_n 0, 1)) rfl
theorem t108_9 : rn 108 9 (a0 :: a1 :: a2 :: a3 :: some (.int x) :: l) r M = rn 108 11 (a0 :: a1 :: a2 :: a3 :: some (.int x) :: l) (.int x :: r) M := r_iload (by decide +kernel : decode (mB 108) 9 = .ok (.iload 4, 2)) rfl
theorem t108_11 : rn 108 11 ls r M = rn 108 12 ls (.int 0 :: r) M := r_nx (by decide +kernel : decode (mB 108) 11 = .ok (.iconst 0, 1)) rfl rfl
theorem t108_12 : rn 108 12 (a0 :: some (.int x) :: l) r M = rn 108 13 (a0 :: some (.int x) :: l) (.int x :: r) M := r_iload_n (by decide +kernel : decode (mB 108) 12 = .ok (.iload_n 1, 1)) rfl
theorem t108_13 : rn 108 13 ls [.int x, .int y, .int z, .ref a] M = if mK M a = (19, 0) then cbn (cl 109 [.ref a, .int z, .int y, .int x] M) 108 16 ls [] else none := r_callV (kd := 0) (by decide +kernel : decode (mB 108) 13 = .ok (.invokevirtual 57, 3)) (by decide +kernel) ((doV_n np_109).trans rfl)
theorem t108_16 : rn 108 16 (some (.ref a) :: l) r M = rn 108 17 (some (.ref a) :: l) (.ref a :: r) M := r_aload_n (by decide +kernel : decode (mB 108) 16 = .ok (.aload_n 0, 1)) rfl
theorem t108_17 : rn 108 17 (a0 :: a1 :: a2 :: a3 :: some (.int x) :: l) r M = rn 108 19 (a0 :: a1 :: a2 :: a3 :: some (.int x) :: l) (.int x :: r) M := r_iload (by decide +kernel : decode (mB 108) 17 = .ok (.iload 4, 2)) rfl
theorem t108_19 : rn 108 19 ls r M = rn 108 20 ls (.int 1 :: r) M := r_nx (by decide +kernel : decode (mB 108) 19 = .ok (.iconst 1, 1)) rfl rfl
theorem t108_20 : rn 108 20 (a0 :: a1 :: some (.int x) :: l) r M = rn 108 21 (a0 :: a1 :: some (.int x) :: l) (.int x :: r) M := r_iload_n (by decide +kernel : decode (mB 108) 20 = .ok (.iload_n 2, 1)) rfl
theorem t108_21 : rn 108 21 ls [.int x, .int y, .int z, .ref a] M = if mK M a = (19, 0) then cbn (cl 109 [.ref a, .int z, .int y, .int x] M) 108 24 ls [] else none := r_callV (kd := 0) (by decide +kernel : decode (mB 108) 21 = .ok (.invokevirtual 57, 3)) (by decide +kernel) ((doV_n np_109).trans rfl)
theorem t108_24 : rn 108 24 (some (.ref a) :: l) r M = rn 108 25 (some (.ref a) :: l) (.ref a :: r) M := r_aload_n (by decide +kernel : decode (mB 108) 24 = .ok (.aload_n 0, 1)) rfl
theorem t108_25 : rn 108 25 (a0 :: a1 :: a2 :: a3 :: some (.int x) :: l) r M = rn 108 27 (a0 :: a1 :: a2 :: a3 :: some (.int x) :: l) (.int x :: r) M := r_iload (by decide +kernel : decode (mB 108) 25 = .ok (.iload 4, 2)) rfl
theorem t108_27 : rn 108 27 ls r M = rn 108 28 ls (.int 2 :: r) M := r_nx (by decide +kernel : decode (mB 108) 27 = .ok (.iconst 2, 1)) rfl rfl
theorem t108_28 : rn 108 28 (a0 :: a1 :: a2 :: some (.int x) :: l) r M = rn 108 29 (a0 :: a1 :: a2 :: some (.int x) :: l) (.int x :: r) M := r_iload_n (by decide +kernel : decode (mB 108) 28 = .ok (.iload_n 3, 1)) rfl
theorem t108_29 : rn 108 29 ls [.int x, .int y, .int z, .ref a] M = if mK M a = (19, 0) then cbn (cl 109 [.ref a, .int z, .int y, .int x] M) 108 32 ls [] else none := r_callV (kd := 0) (by decide +kernel : decode (mB 108) 29 = .ok (.invokevirtual 57, 3)) (by decide +kernel) ((doV_n np_109).trans rfl)
theorem t108_32 : rn 108 32 (some (.ref a) :: l) r M = rn 108 33 (some (.ref a) :: l) (.ref a :: r) M := r_aload_n (by decide +kernel : decode (mB 108) 32 = .ok (.aload_n 0, 1)) rfl
theorem t108_33 : rn 108 33 (a0 :: a1 :: a2 :: a3 :: some (.int x) :: l) r M = rn 108 35 (a0 :: a1 :: a2 :: a3 :: some (.int x) :: l) (.int x :: r) M := r_iload (by decide +kernel : decode (mB 108) 33 = .ok (.iload 4, 2)) rfl
theorem t108_35 : rn 108 35 ls r M = rn 108 36 ls (.int 3 :: r) M := r_nx (by decide +kernel : decode (mB 108) 35 = .ok (.iconst 3, 1)) rfl rfl
theorem t108_36 : rn 108 36 ls r M = rn 108 37 ls (.int 0 :: r) M := r_nx (by decide +kernel : decode (mB 108) 36 = .ok (.iconst 0, 1)) rfl rfl
theorem t108_37 : rn 108 37 ls [.int x, .int y, .int z, .ref a] M = if mK M a = (19, 0) then cbn (cl 109 [.ref a, .int z, .int y, .int x] M) 108 40 ls [] else none := r_callV (kd := 0) (by decide +kernel : decode (mB 108) 37 = .ok (.invokevirtual 57, 3)) (by decide +kernel) ((doV_n np_109).trans rfl)
theorem t108_40 : rn 108 40 (some (.ref a) :: l) r M = rn 108 41 (some (.ref a) :: l) (.ref a :: r) M := r_aload_n (by decide +kernel : decode (mB 108) 40 = .ok (.aload_n 0, 1)) rfl
theorem t108_41 : rn 108 41 (a0 :: a1 :: a2 :: a3 :: some (.int x) :: l) r M = rn 108 43 (a0 :: a1 :: a2 :: a3 :: some (.int x) :: l) (.int x :: r) M := r_iload (by decide +kernel : decode (mB 108) 41 = .ok (.iload 4, 2)) rfl
theorem t108_43 : rn 108 43 ls r M = rn 108 44 ls (.int 4 :: r) M := r_nx (by decide +kernel : decode (mB 108) 43 = .ok (.iconst 4, 1)) rfl rfl
theorem t108_44 : rn 108 44 ls r M = rn 108 46 ls (.int (-6) :: r) M := r_nx (by decide +kernel : decode (mB 108) 44 = .ok (.bipush (-6), 2)) rfl rfl
theorem t108_46 : rn 108 46 ls [.int x, .int y, .int z, .ref a] M = if mK M a = (19, 0) then cbn (cl 109 [.ref a, .int z, .int y, .int x] M) 108 49 ls [] else none := r_callV (kd := 0) (by decide +kernel : decode (mB 108) 46 = .ok (.invokevirtual 57, 3)) (by decide +kernel) ((doV_n np_109).trans rfl)
theorem t108_49 : rn 108 49 (some (.ref a) :: l) r M = rn 108 50 (some (.ref a) :: l) (.ref a :: r) M := r_aload_n (by decide +kernel : decode (mB 108) 49 = .ok (.aload_n 0, 1)) rfl
theorem t108_50 : rn 108 50 (a0 :: a1 :: a2 :: a3 :: some (.int x) :: l) r M = rn 108 52 (a0 :: a1 :: a2 :: a3 :: some (.int x) :: l) (.int x :: r) M := r_iload (by decide +kernel : decode (mB 108) 50 = .ok (.iload 4, 2)) rfl
theorem t108_52 : rn 108 52 ls r M = rn 108 53 ls (.int 5 :: r) M := r_nx (by decide +kernel : decode (mB 108) 52 = .ok (.iconst 5, 1)) rfl rfl
theorem t108_53 : rn 108 53 ls r M = rn 108 55 ls (.int (-6) :: r) M := r_nx (by decide +kernel : decode (mB 108) 53 = .ok (.bipush (-6), 2)) rfl rfl
theorem t108_55 : rn 108 55 ls [.int x, .int y, .int z, .ref a] M = if mK M a = (19, 0) then cbn (cl 109 [.ref a, .int z, .int y, .int x] M) 108 58 ls [] else none := r_callV (kd := 0) (by decide +kernel : decode (mB 108) 55 = .ok (.invokevirtual 57, 3)) (by decide +kernel) ((doV_n np_109).trans rfl)
theorem t108_58 : rn 108 58 (some (.ref a) :: l) r M = rn 108 59 (some (.ref a) :: l) (.ref a :: r) M := r_aload_n (by decide +kernel : decode (mB 108) 58 = .ok (.aload_n 0, 1)) rfl
theorem t108_59 : rn 108 59 (a0 :: a1 :: a2 :: a3 :: some (.int x) :: l) r M = rn 108 61 (a0 :: a1 :: a2 :: a3 :: some (.int x) :: l) (.int x :: r) M := r_iload (by decide +kernel : decode (mB 108) 59 = .ok (.iload 4, 2)) rfl
theorem t108_61 : rn 108 61 ls r M = rn 108 63 ls (.int 6 :: r) M := r_nx (by decide +kernel : decode (mB 108) 61 = .ok (.bipush 6, 2)) rfl rfl
theorem t108_63 : rn 108 63 ls r M = rn 108 64 ls (.int 0 :: r) M := r_nx (by decide +kernel : decode (mB 108) 63 = .ok (.iconst 0, 1)) rfl rfl
theorem t108_64 : rn 108 64 ls [.int x, .int y, .int z, .ref a] M = if mK M a = (19, 0) then cbn (cl 109 [.ref a, .int z, .int y, .int x] M) 108 67 ls [] else none := r_callV (kd := 0) (by decide +kernel : decode (mB 108) 64 = .ok (.invokevirtual 57, 3)) (by decide +kernel) ((doV_n np_109).trans rfl)
theorem t108_67 : rn 108 67 (some (.ref a) :: l) r M = rn 108 68 (some (.ref a) :: l) (.ref a :: r) M := r_aload_n (by decide +kernel : decode (mB 108) 67 = .ok (.aload_n 0, 1)) rfl
theorem t108_68 : rn 108 68 (a0 :: a1 :: a2 :: a3 :: some (.int x) :: l) r M = rn 108 70 (a0 :: a1 :: a2 :: a3 :: some (.int x) :: l) (.int x :: r) M := r_iload (by decide +kernel : decode (mB 108) 68 = .ok (.iload 4, 2)) rfl
theorem t108_70 : rn 108 70 ls r M = rn 108 72 ls (.int 7 :: r) M := r_nx (by decide +kernel : decode (mB 108) 70 = .ok (.bipush 7, 2)) rfl rfl
theorem t108_72 : rn 108 72 ls r M = rn 108 73 ls (.int 0 :: r) M := r_nx (by decide +kernel : decode (mB 108) 72 = .ok (.iconst 0, 1)) rfl rfl
theorem t108_73 : rn 108 73 ls [.int x, .int y, .int z, .ref a] M = if mK M a = (19, 0) then cbn (cl 109 [.ref a, .int z, .int y, .int x] M) 108 76 ls [] else none := r_callV (kd := 0) (by decide +kernel : decode (mB 108) 73 = .ok (.invokevirtual 57, 3)) (by decide +kernel) ((doV_n np_109).trans rfl)
theorem t108_76 : rn 108 76 (some (.ref a) :: l) r M = rn 108 77 (some (.ref a) :: l) (.ref a :: r) M := r_aload_n (by decide +kernel : decode (mB 108) 76 = .ok (.aload_n 0, 1)) rfl
theorem t108_77 : rn 108 77 (a0 :: a1 :: a2 :: a3 :: some (.int x) :: l) r M = rn 108 79 (a0 :: a1 :: a2 :: a3 :: some (.int x) :: l) (.int x :: r) M := r_iload (by decide +kernel : decode (mB 108) 77 = .ok (.iload 4, 2)) rfl
theorem t108_79 : rn 108 79 (some (.ref a) :: l) r M = rn 108 80 (some (.ref a) :: l) (.ref a :: r) M := r_aload_n (by decide +kernel : decode (mB 108) 79 = .ok (.aload_n 0, 1)) rfl
theorem t108_80 : rn 108 80 (a0 :: a1 :: a2 :: a3 :: some (.int x) :: l) r M = rn 108 82 (a0 :: a1 :: a2 :: a3 :: some (.int x) :: l) (.int x :: r) M := r_iload (by decide +kernel : decode (mB 108) 80 = .ok (.iload 4, 2)) rfl
theorem t108_82 : rn 108 82 (a0 :: a1 :: some (.int x) :: l) r M = rn 108 83 (a0 :: a1 :: some (.int x) :: l) (.int x :: r) M := r_iload_n (by decide +kernel : decode (mB 108) 82 = .ok (.iload_n 2, 1)) rfl
theorem t108_83 : rn 108 83 ls [.int x, .int y, .ref a, .int z, .ref b] M = if mK M a = (19, 0) then cbn (cl 110 [.ref a, .int y, .int x] M) 108 86 ls [.int z, .ref b] else none := r_callV (kd := 0) (by decide +kernel : decode (mB 108) 83 = .ok (.invokevirtual 69, 3)) (by decide +kernel) ((doV_n np_110).trans rfl)
theorem t108_86 : rn 108 86 ls [.int x, .int y, .ref a] M = if mK M a = (19, 0) then cbn (cl 112 [.ref a, .int y, .int x] M) 108 89 ls [] else none := r_callV (kd := 0) (by decide +kernel : decode (mB 108) 86 = .ok (.invokevirtual 72, 3)) (by decide +kernel) ((doV_n np_112).trans rfl)
theorem t108_89 : rn 108 89 (some (.ref a) :: l) r M = rn 108 90 (some (.ref a) :: l) (.ref a :: r) M := r_aload_n (by decide +kernel : decode (mB 108) 89 = .ok (.aload_n 0, 1)) rfl
theorem t108_90 : rn 108 90 (a0 :: a1 :: a2 :: a3 :: some (.int x) :: l) r M = rn 108 92 (a0 :: a1 :: a2 :: a3 :: some (.int x) :: l) (.int x :: r) M := r_iload (by decide +kernel : decode (mB 108) 90 = .ok (.iload 4, 2)) rfl
theorem t108_92 : rn 108 92 ls [.int x, .ref a] M = if mK M a = (19, 0) then cbn (cl 114 [.ref a, .int x] M) 108 95 ls [] else none := r_callV (kd := 0) (by decide +kernel : decode (mB 108) 92 = .ok (.invokevirtual 61, 3)) (by decide +kernel) ((doV_n np_114).trans rfl)
theorem t108_95 : rn 108 95 ls (.int x :: r) M = if x = 0 then rn 108 115 ls r M else rn 108 98 ls r M := r_if (o := 20) (r := r) (c := x = 0) (by decide +kernel : decode (mB 108) 95 = .ok (.ifCond .eq 20, 3)) rfl (by decide) rfl
theorem t108_98 : rn 108 98 (a0 :: a1 :: a2 :: some (.int x) :: l) r M = rn 108 99 (a0 :: a1 :: a2 :: some (.int x) :: l) (.int x :: r) M := r_iload_n (by decide +kernel : decode (mB 108) 98 = .ok (.iload_n 3, 1)) rfl
theorem t108_99 : rn 108 99 ls (.int x :: r) M = if x = 0 then rn 108 115 ls r M else rn 108 102 ls r M := r_if (o := 16) (r := r) (c := x = 0) (by decide +kernel : decode (mB 108) 99 = .ok (.ifCond .eq 16, 3)) rfl (by decide) rfl
theorem t108_102 : rn 108 102 (some (.ref a) :: l) r M = rn 108 103 (some (.ref a) :: l) (.ref a :: r) M := r_aload_n (by decide +kernel : decode (mB 108) 102 = .ok (.aload_n 0, 1)) rfl
theorem t108_103 : rn 108 103 (a0 :: a1 :: a2 :: a3 :: some (.int x) :: l) r M = rn 108 105 (a0 :: a1 :: a2 :: a3 :: some (.int x) :: l) (.int x :: r) M := r_iload (by decide +kernel : decode (mB 108) 103 = .ok (.iload 4, 2)) rfl
theorem t108_105 : rn 108 105 (some (.ref a) :: l) r M = rn 108 106 (some (.ref a) :: l) (.ref a :: r) M := r_aload_n (by decide +kernel : decode (mB 108) 105 = .ok (.aload_n 0, 1)) rfl
theorem t108_106 : rn 108 106 (a0 :: a1 :: a2 :: a3 :: some (.int x) :: l) r M = rn 108 108 (a0 :: a1 :: a2 :: a3 :: some (.int x) :: l) (.int x :: r) M := r_iload (by decide +kernel : decode (mB 108) 106 = .ok (.iload 4, 2)) rfl
theorem t108_108 : rn 108 108 (a0 :: a1 :: a2 :: some (.int x) :: l) r M = rn 108 109 (a0 :: a1 :: a2 :: some (.int x) :: l) (.int x :: r) M := r_iload_n (by decide +kernel : decode (mB 108) 108 = .ok (.iload_n 3, 1)) rfl
theorem t108_109 : rn 108 109 ls [.int x, .int y, .ref a, .int z, .ref b] M = if mK M a = (19, 0) then cbn (cl 110 [.ref a, .int y, .int x] M) 108 112 ls [.int z, .ref b] else none := r_callV (kd := 0) (by decide +kernel : decode (mB 108) 109 = .ok (.invokevirtual 69, 3)) (by decide +kernel) ((doV_n np_110).trans rfl)
theorem t108_112 : rn 108 112 ls [.int x, .int y, .ref a] M = if mK M a = (19, 0) then cbn (cl 112 [.ref a, .int y, .int x] M) 108 115 ls [] else none := r_callV (kd := 0) (by decide +kernel : decode (mB 108) 112 = .ok (.invokevirtual 72, 3)) (by decide +kernel) ((doV_n np_112).trans rfl)
theorem t108_115 : rn 108 115 (a0 :: some (.int x) :: l) r M = rn 108 116 (a0 :: some (.int x) :: l) (.int x :: r) M := r_iload_n (by decide +kernel : decode (mB 108) 115 = .ok (.iload_n 1, 1)) rfl
theorem t108_116 : rn 108 116 ls r M = rn 108 117 ls (.int 3 :: r) M := r_nx (by decide +kernel : decode (mB 108) 116 = .ok (.iconst 3, 1)) rfl rfl
theorem t108_117 : rn 108 117 ls (.int y :: .int x :: r) M = if ¬ x = y then rn 108 133 ls r M else rn 108 120 ls r M := r_if (o := 16) (r := r) (c := ¬ x = y) (by decide +kernel : decode (mB 108) 117 = .ok (.if_icmp .ne 16, 3)) rfl (by decide) rfl
theorem t108_120 : rn 108 120 (some (.ref a) :: l) r M = rn 108 121 (some (.ref a) :: l) (.ref a :: r) M := r_aload_n (by decide +kernel : decode (mB 108) 120 = .ok (.aload_n 0, 1)) rfl
theorem t108_121 : rn 108 121 (a0 :: a1 :: a2 :: a3 :: some (.int x) :: l) r M = rn 108 123 (a0 :: a1 :: a2 :: a3 :: some (.int x) :: l) (.int x :: r) M := r_iload (by decide +kernel : decode (mB 108) 121 = .ok (.iload 4, 2)) rfl
theorem t108_123 : rn 108 123 (some (.ref a) :: l) r M = rn 108 124 (some (.ref a) :: l) (.ref a :: r) M := r_aload_n (by decide +kernel : decode (mB 108) 123 = .ok (.aload_n 0, 1)) rfl
theorem t108_124 : rn 108 124 (a0 :: a1 :: a2 :: a3 :: some (.int x) :: l) r M = rn 108 126 (a0 :: a1 :: a2 :: a3 :: some (.int x) :: l) (.int x :: r) M := r_iload (by decide +kernel : decode (mB 108) 124 = .ok (.iload 4, 2)) rfl
theorem t108_126 : rn 108 126 (a0 :: a1 :: some (.int x) :: l) r M = rn 108 127 (a0 :: a1 :: some (.int x) :: l) (.int x :: r) M := r_iload_n (by decide +kernel : decode (mB 108) 126 = .ok (.iload_n 2, 1)) rfl
theorem t108_127 : rn 108 127 ls [.int x, .int y, .ref a, .int z, .ref b] M = if mK M a = (19, 0) then cbn (cl 115 [.ref a, .int y, .int x] M) 108 130 ls [.int z, .ref b] else none := r_callV (kd := 0) (by decide +kernel : decode (mB 108) 127 = .ok (.invokevirtual 75, 3)) (by decide +kernel) ((doV_n np_115).trans rfl)
theorem t108_130 : rn 108 130 ls [.int x, .int y, .ref a] M = if mK M a = (19, 0) then cbn (cl 112 [.ref a, .int y, .int x] M) 108 133 ls [] else none := r_callV (kd := 0) (by decide +kernel : decode (mB 108) 130 = .ok (.invokevirtual 72, 3)) (by decide +kernel) ((doV_n np_112).trans rfl)
theorem t108_133 : rn 108 133 (some (.ref a) :: l) r M = rn 108 134 (some (.ref a) :: l) (.ref a :: r) M := r_aload_n (by decide +kernel : decode (mB 108) 133 = .ok (.aload_n 0, 1)) rfl
theorem t108_134 : rn 108 134 ls (.ref a :: r) M = if mK M a = (19, 0) then rn 108 137 ls (va_rf (mP M a 0) :: r) M else none := r_getP (ci := 9) (k := 0) (by decide +kernel : decode (mB 108) 134 = .ok (.getfield 7, 3)) (by decide +kernel) rfl
theorem t108_137 : rn 108 137 ls r M = rn 108 138 ls (.int 0 :: r) M := r_nx (by decide +kernel : decode (mB 108) 137 = .ok (.iconst 0, 1)) rfl rfl
theorem t108_138 : rn 108 138 ls (.int x :: .ref a :: r) M = rn 108 139 ls (.int x :: .ref a :: .int x :: .ref a :: r) M := r_nx (by decide +kernel : decode (mB 108) 138 = .ok (.dup2, 1)) rfl rfl
theorem t108_139 : rn 108 139 ls (.int x :: .ref a :: r) M = if ((mK M a).1 = 1 ∨ (mK M a).1 = 5) ∧ inR x (mK M a).2 then rn 108 140 ls (.int (mI M a x.toNatClampNeg) :: r) M else none := r_cnd (by decide +kernel : decode (mB 108) 139 = .ok (.iaload, 1)) rfl rfl
theorem t108_140 : rn 108 140 ls r M = rn 108 141 ls (.int 1 :: r) M := r_nx (by decide +kernel : decode (mB 108) 140 = .ok (.iconst 1, 1)) rfl rfl
theorem t108_141 : rn 108 141 ls (.int y :: .int x :: r) M = rn 108 142 ls (.int (x + y) :: r) M := r_nx (by decide +kernel : decode (mB 108) 141 = .ok (.iadd, 1)) rfl rfl
theorem t108_142 : rn 108 142 ls (.int y :: .int x :: .ref a :: r) M = if (mK M a).1 = 1 ∧ inR x (mK M a).2 then rn 108 143 ls r (sI M a (va_up (mI M a) x.toNatClampNeg y)) else none := r_cnd (by decide +kernel : decode (mB 108) 142 = .ok (.iastore, 1)) rfl rfl
theorem t108_143 : rn 108 143 (a0 :: a1 :: a2 :: a3 :: some (.int x) :: l) r M = rn 108 145 (a0 :: a1 :: a2 :: a3 :: some (.int x) :: l) (.int x :: r) M := r_iload (by decide +kernel : decode (mB 108) 143 = .ok (.iload 4, 2)) rfl
theorem t108_145 : rn 108 145 ls [.int x] M = some (some (.int x), M) := r_ireturn (by decide +kernel : decode (mB 108) 145 = .ok (.ireturn, 1)) rfl
-- 109 DRModel_setPart(III)V
theorem t109_0 : rn 109 0 (some (.ref a) :: l) r M = rn 109 1 (some (.ref a) :: l) (.ref a :: r) M := r_aload_n (by decide +kernel : decode (mB 109) 0 = .ok (.aload_n 0, 1)) rfl
theorem t109_1 : rn 109 1 ls (.ref a :: r) M = if mK M a = (19, 0) then rn 109 4 ls (va_rf (mP M a 0) :: r) M else none := r_getP (ci := 9) (k := 0) (by decide +kernel : decode (mB 109) 1 = .ok (.getfield 7, 3)) (by decide +kernel) rfl
theorem t109_4 : rn 109 4 ls r M = rn 109 5 ls (.int 2 :: r) M := r_nx (by decide +kernel : decode (mB 109) 4 = .ok (.iconst 2, 1)) rfl rfl
theorem t109_5 : rn 109 5 ls r M = rn 109 7 ls (.int 8 :: r) M := r_nx (by decide +kernel : decode (mB 109) 5 = .ok (.bipush 8, 2)) rfl rfl
theorem t109_7 : rn 109 7 (a0 :: some (.int x) :: l) r M = rn 109 8 (a0 :: some (.int x) :: l) (.int x :: r) M := r_iload_n (by decide +kernel : decode (mB 109) 7 = .ok (.iload_n 1, 1)) rfl
theorem t109_8 : rn 109 8 ls (.int y :: .int x :: r) M = rn 109 9 ls (.int (x * y) :: r) M := r_nx (by decide +kernel : decode (mB 109) 8 = .ok (.imul, 1)) rfl rfl
theorem t109_9 : rn 109 9 ls (.int y :: .int x :: r) M = rn 109 10 ls (.int (x + y) :: r) M := r_nx (by decide +kernel : decode (mB 109) 9 = .ok (.iadd, 1)) rfl rfl
theorem t109_10 : rn 109 10 (a0 :: a1 :: some (.int x) :: l) r M = rn 109 11 (a0 :: a1 :: some (.int x) :: l) (.int x :: r) M := r_iload_n (by decide +kernel : decode (mB 109) 10 = .ok (.iload_n 2, 1)) rfl
theorem t109_11 : rn 109 11 ls (.int y :: .int x :: r) M = rn 109 12 ls (.int (x + y) :: r) M := r_nx (by decide +kernel : decode (mB 109) 11 = .ok (.iadd, 1)) rfl rfl
theorem t109_12 : rn 109 12 (a0 :: a1 :: a2 :: some (.int x) :: l) r M = rn 109 13 (a0 :: a1 :: a2 :: some (.int x) :: l) (.int x :: r) M := r_iload_n (by decide +kernel : decode (mB 109) 12 = .ok (.iload_n 3, 1)) rfl
theorem t109_13 : rn 109 13 ls (.int y :: .int x :: .ref a :: r) M = if (mK M a).1 = 1 ∧ inR x (mK M a).2 then rn 109 14 ls r (sI M a (va_up (mI M a) x.toNatClampNeg y)) else none := r_cnd (by decide +kernel : decode (mB 109) 13 = .ok (.iastore, 1)) rfl rfl
theorem t109_14 : rn 109 14 ls [] M = some (none, M) := r_vreturn (by decide +kernel : decode (mB 109) 14 = .ok (.return_, 1)) rfl
-- 110 DRModel_latestOf(II)I
theorem t110_0 : rn 110 0 ls r M = rn 110 2 ls (.int (-6) :: r) M := r_nx (by decide +kernel : decode (mB 110) 0 = .ok (.bipush (-6), 2)) rfl rfl
theorem t110_2 : rn 110 2 (a0 :: a1 :: a2 :: a3 :: l) (.int x :: r) M = rn 110 3 (a0 :: a1 :: a2 :: some (.int x) :: l) r M := r_istore_n (by decide +kernel : decode (mB 110) 2 = .ok (.istore_n 3, 1)) (Nat.le_add_left 4 l.length)
theorem t110_3 : rn 110 3 ls r M = rn 110 4 ls (.int 0 :: r) M := r_nx (by decide +kernel : decode (mB 110) 3 = .ok (.iconst 0, 1)) rfl rfl
theorem t110_4 : rn 110 4 (a0 :: a1 :: a2 :: a3 :: a4 :: l) (.int x :: r) M = rn 110 6 (a0 :: a1 :: a2 :: a3 :: some (.int x) :: l) r M := r_istore (by decide +kernel : decode (mB 110) 4 = .ok (.istore 4, 2)) (Nat.le_add_left 5 l.length)
theorem t110_6 : rn 110 6 (a0 :: a1 :: a2 :: a3 :: some (.int x) :: l) r M = rn 110 8 (a0 :: a1 :: a2 :: a3 :: some (.int x) :: l) (.int x :: r) M := r_iload (by decide +kernel : decode (mB 110) 6 = .ok (.iload 4, 2)) rfl
theorem t110_8 : rn 110 8 (a0 :: some (.int x) :: l) r M = rn 110 9 (a0 :: some (.int x) :: l) (.int x :: r) M := r_iload_n (by decide +kernel : decode (mB 110) 8 = .ok (.iload_n 1, 1)) rfl
theorem t110_9 : rn 110 9 ls (.int y :: .int x :: r) M = if y ≤ x then rn 110 36 ls r M else rn 110 12 ls r M := r_if (o := 27) (r := r) (c := y ≤ x) (by decide +kernel : decode (mB 110) 9 = .ok (.if_icmp .ge 27, 3)) rfl (by decide) rfl
theorem t110_12 : rn 110 12 (some (.ref a) :: l) r M = rn 110 13 (some (.ref a) :: l) (.ref a :: r) M := r_aload_n (by decide +kernel : decode (mB 110) 12 = .ok (.aload_n 0, 1)) rfl
theorem t110_13 : rn 110 13 (a0 :: a1 :: a2 :: a3 :: some (.int x) :: l) r M = rn 110 15 (a0 :: a1 :: a2 :: a3 :: some (.int x) :: l) (.int x :: r) M := r_iload (by decide +kernel : decode (mB 110) 13 = .ok (.iload 4, 2)) rfl
theorem t110_15 : rn 110 15 ls r M = rn 110 16 ls (.int 1 :: r) M := r_nx (by decide +kernel : decode (mB 110) 15 = .ok (.iconst 1, 1)) rfl rfl
theorem t110_16 : rn 110 16 ls [.int x, .int y, .ref a] M = if mK M a = (19, 0) then cbn (cl 111 [.ref a, .int y, .int x] M) 110 19 ls [] else none := r_callV (kd := 0) (by decide +kernel : decode (mB 110) 16 = .ok (.invokevirtual 53, 3)) (by decide +kernel) ((doV_n np_111).trans rfl)
theorem t110_19 : rn 110 19 (a0 :: a1 :: some (.int x) :: l) r M = rn 110 20 (a0 :: a1 :: some (.int x) :: l) (.int x :: r) M := r_iload_n (by decide +kernel : decode (mB 110) 19 = .ok (.iload_n 2, 1)) rfl
theorem t110_20 : rn 110 20 ls (.int y :: .int x :: r) M = if ¬ x = y then rn 110 28 ls r M else rn 110 23 ls r M := r_if (o := 8) (r := r) (c := ¬ x = y) (by decide +kernel : decode (mB 110) 20 = .ok (.if_icmp .ne 8, 3)) rfl (by decide) rfl
theorem t110_23 : rn 110 23 (a0 :: a1 :: a2 :: a3 :: some (.int x) :: l) r M = rn 110 25 (a0 :: a1 :: a2 :: a3 :: some (.int x) :: l) (.int x :: r) M := r_iload (by decide +kernel : decode (mB 110) 23 = .ok (.iload 4, 2)) rfl
theorem t110_25 : rn 110 25 ls r M = rn 110 29 ls r M := r_goto (o := 4) (by decide +kernel : decode (mB 110) 25 = .ok (.goto 4, 3)) (by decide)
theorem t110_28 : rn 110 28 (a0 :: a1 :: a2 :: some (.int x) :: l) r M = rn 110 29 (a0 :: a1 :: a2 :: some (.int x) :: l) (.int x :: r) M := r_iload_n (by decide +kernel : decode (mB 110) 28 = .ok (.iload_n 3, 1)) rfl
theorem t110_29 : rn 110 29 (a0 :: a1 :: a2 :: a3 :: l) (.int x :: r) M = rn 110 30 (a0 :: a1 :: a2 :: some (.int x) :: l) r M := r_istore_n (by decide +kernel : decode (mB 110) 29 = .ok (.istore_n 3, 1)) (Nat.le_add_left 4 l.length)
theorem t110_30 : rn 110 30 (a0 :: a1 :: a2 :: a3 :: some (.int x) :: l) r M = rn 110 33 (a0 :: a1 :: a2 :: a3 :: some (.int (x + 1)) :: l) r M := r_iinc (by decide +kernel : decode (mB 110) 30 = .ok (.iinc 4 1, 3)) rfl
theorem t110_33 : rn 110 33 ls r M = rn 110 6 ls r M := r_goto (o := (-27)) (by decide +kernel : decode (mB 110) 33 = .ok (.goto (-27), 3)) (by decide)
theorem t110_36 : rn 110 36 (a0 :: a1 :: a2 :: some (.int x) :: l) r M = rn 110 37 (a0 :: a1 :: a2 :: some (.int x) :: l) (.int x :: r) M := r_iload_n (by decide +kernel : decode (mB 110) 36 = .ok (.iload_n 3, 1)) rfl
theorem t110_37 : rn 110 37 ls [.int x] M = some (some (.int x), M) := r_ireturn (by decide +kernel : decode (mB 110) 37 = .ok (.ireturn, 1)) rfl
-- 111 DRModel_part(II)I
theorem t111_0 : rn 111 0 (some (.ref a) :: l) r M = rn 111 1 (some (.ref a) :: l) (.ref a :: r) M := r_aload_n (by decide +kernel : decode (mB 111) 0 = .ok (.aload_n 0, 1)) rfl
theorem t111_1 : rn 111 1 ls (.ref a :: r) M = if mK M a = (19, 0) then rn 111 4 ls (va_rf (mP M a 0) :: r) M else none := r_getP (ci := 9) (k := 0) (by decide +kernel : decode (mB 111) 1 = .ok (.getfield 7, 3)) (by decide +kernel) rfl
theorem t111_4 : rn 111 4 ls r M = rn 111 5 ls (.int 2 :: r) M := r_nx (by decide +kernel : decode (mB 111) 4 = .ok (.iconst 2, 1)) rfl rfl
theorem t111_5 : rn 111 5 ls r M = rn 111 7 ls (.int 8 :: r) M := r_nx (by decide +kernel : decode (mB 111) 5 = .ok (.bipush 8, 2)) rfl rfl
theorem t111_7 : rn 111 7 (a0 :: some (.int x) :: l) r M = rn 111 8 (a0 :: some (.int x) :: l) (.int x :: r) M := r_iload_n (by decide +kernel : decode (mB 111) 7 = .ok (.iload_n 1, 1)) rfl
theorem t111_8 : rn 111 8 ls (.int y :: .int x :: r) M = rn 111 9 ls (.int (x * y) :: r) M := r_nx (by decide +kernel : decode (mB 111) 8 = .ok (.imul, 1)) rfl rfl
theorem t111_9 : rn 111 9 ls (.int y :: .int x :: r) M = rn 111 10 ls (.int (x + y) :: r) M := r_nx (by decide +kernel : decode (mB 111) 9 = .ok (.iadd, 1)) rfl rfl
theorem t111_10 : rn 111 10 (a0 :: a1 :: some (.int x) :: l) r M = rn 111 11 (a0 :: a1 :: some (.int x) :: l) (.int x :: r) M := r_iload_n (by decide +kernel : decode (mB 111) 10 = .ok (.iload_n 2, 1)) rfl
theorem t111_11 : rn 111 11 ls (.int y :: .int x :: r) M = rn 111 12 ls (.int (x + y) :: r) M := r_nx (by decide +kernel : decode (mB 111) 11 = .ok (.iadd, 1)) rfl rfl
theorem t111_12 : rn 111 12 ls (.int x :: .ref a :: r) M = if ((mK M a).1 = 1 ∨ (mK M a).1 = 5) ∧ inR x (mK M a).2 then rn 111 13 ls (.int (mI M a x.toNatClampNeg) :: r) M else none := r_cnd (by decide +kernel : decode (mB 111) 12 = .ok (.iaload, 1)) rfl rfl
theorem t111_13 : rn 111 13 ls [.int x] M = some (some (.int x), M) := r_ireturn (by decide +kernel : decode (mB 111) 13 = .ok (.ireturn, 1)) rfl
-- 112 DRModel_dependsIfAny(II)V
theorem t112_0 : rn 112 0 (a0 :: a1 :: some (.int x) :: l) r M = rn 112 1 (a0 :: a1 :: some (.int x) :: l) (.int x :: r) M := r_iload_n (by decide +kernel : decode (mB 112) 0 = .ok (.iload_n 2, 1)) rfl
theorem t112_1 : rn 112 1 ls r M = rn 112 3 ls (.int (-6) :: r) M := r_nx (by decide +kernel : decode (mB 112) 1 = .ok (.bipush (-6), 2)) rfl rfl
theorem t112_3 : rn 112 3 ls (.int y :: .int x :: r) M = if x = y then rn 112 12 ls r M else rn 112 6 ls r M := r_if (o := 9) (r := r) (c := x = y) (by decide +kernel : decode (mB 112) 3 = .ok (.if_icmp .eq 9, 3)) rfl (by decide) rfl
theorem t112_6 : rn 112 6 (some (.ref a) :: l) r M = rn 112 7 (some (.ref a) :: l) (.ref a :: r) M := r_aload_n (by decide +kernel : decode (mB 112) 6 = .ok (.aload_n 0, 1)) rfl
theorem t112_7 : rn 112 7 (a0 :: some (.int x) :: l) r M = rn 112 8 (a0 :: some (.int x) :: l) (.int x :: r) M := r_iload_n (by decide +kernel : decode (mB 112) 7 = .ok (.iload_n 1, 1)) rfl
theorem t112_8 : rn 112 8 (a0 :: a1 :: some (.int x) :: l) r M = rn 112 9 (a0 :: a1 :: some (.int x) :: l) (.int x :: r) M := r_iload_n (by decide +kernel : decode (mB 112) 8 = .ok (.iload_n 2, 1)) rfl
theorem t112_9 : rn 112 9 ls [.int x, .int y, .ref a] M = if mK M a = (19, 0) then cbn (cl 113 [.ref a, .int y, .int x] M) 112 12 ls [] else none := r_callV (kd := 0) (by decide +kernel : decode (mB 112) 9 = .ok (.invokevirtual 65, 3)) (by decide +kernel) ((doV_n np_113).trans rfl)
theorem t112_12 : rn 112 12 ls [] M = some (none, M) := r_vreturn (by decide +kernel : decode (mB 112) 12 = .ok (.return_, 1)) rfl
-- 113 DRModel_depends(II)V
theorem t113_0 : rn 113 0 (a0 :: a1 :: some (.int x) :: l) r M = rn 113 1 (a0 :: a1 :: some (.int x) :: l) (.int x :: r) M := r_iload_n (by decide +kernel : decode (mB 113) 0 = .ok (.iload_n 2, 1)) rfl
theorem t113_1 : rn 113 1 ls r M = rn 113 3 ls (.int 20 :: r) M := r_nx (by decide +kernel : decode (mB 113) 1 = .ok (.bipush 20, 2)) rfl rfl
theorem t113_3 : rn 113 3 ls (.int y :: .int x :: r) M = if y ≤ x then rn 113 27 ls r M else rn 113 6 ls r M := r_if (o := 24) (r := r) (c := y ≤ x) (by decide +kernel : decode (mB 113) 3 = .ok (.if_icmp .ge 24, 3)) rfl (by decide) rfl
theorem t113_6 : rn 113 6 (some (.ref a) :: l) r M = rn 113 7 (some (.ref a) :: l) (.ref a :: r) M := r_aload_n (by decide +kernel : decode (mB 113) 6 = .ok (.aload_n 0, 1)) rfl
theorem t113_7 : rn 113 7 (a0 :: some (.int x) :: l) r M = rn 113 8 (a0 :: some (.int x) :: l) (.int x :: r) M := r_iload_n (by decide +kernel : decode (mB 113) 7 = .ok (.iload_n 1, 1)) rfl
theorem t113_8 : rn 113 8 ls r M = rn 113 10 ls (.int 6 :: r) M := r_nx (by decide +kernel : decode (mB 113) 8 = .ok (.bipush 6, 2)) rfl rfl
theorem t113_10 : rn 113 10 (some (.ref a) :: l) r M = rn 113 11 (some (.ref a) :: l) (.ref a :: r) M := r_aload_n (by decide +kernel : decode (mB 113) 10 = .ok (.aload_n 0, 1)) rfl
theorem t113_11 : rn 113 11 (a0 :: some (.int x) :: l) r M = rn 113 12 (a0 :: some (.int x) :: l) (.int x :: r) M := r_iload_n (by decide +kernel : decode (mB 113) 11 = .ok (.iload_n 1, 1)) rfl
theorem t113_12 : rn 113 12 ls r M = rn 113 14 ls (.int 6 :: r) M := r_nx (by decide +kernel : decode (mB 113) 12 = .ok (.bipush 6, 2)) rfl rfl
theorem t113_14 : rn 113 14 ls [.int x, .int y, .ref a, .int z, .int w, .ref b] M = if mK M a = (19, 0) then cbn (cl 111 [.ref a, .int y, .int x] M) 113 17 ls [.int z, .int w, .ref b] else none := r_callV (kd := 0) (by decide +kernel : decode (mB 113) 14 = .ok (.invokevirtual 53, 3)) (by decide +kernel) ((doV_n np_111).trans rfl)
theorem t113_17 : rn 113 17 ls r M = rn 113 18 ls (.int 1 :: r) M := r_nx (by decide +kernel : decode (mB 113) 17 = .ok (.iconst 1, 1)) rfl rfl
theorem t113_18 : rn 113 18 (a0 :: a1 :: some (.int x) :: l) r M = rn 113 19 (a0 :: a1 :: some (.int x) :: l) (.int x :: r) M := r_iload_n (by decide +kernel : decode (mB 113) 18 = .ok (.iload_n 2, 1)) rfl
theorem t113_19 : rn 113 19 ls (.int y :: .int x :: r) M = rn 113 20 ls (.int (x <<< (y &&& 31)) :: r) M := r_nx (by decide +kernel : decode (mB 113) 19 = .ok (.ishl, 1)) rfl rfl
theorem t113_20 : rn 113 20 ls (.int y :: .int x :: r) M = rn 113 21 ls (.int (x ||| y) :: r) M := r_nx (by decide +kernel : decode (mB 113) 20 = .ok (.ior, 1)) rfl rfl
theorem t113_21 : rn 113 21 ls [.int x, .int y, .int z, .ref a] M = if mK M a = (19, 0) then cbn (cl 109 [.ref a, .int z, .int y, .int x] M) 113 24 ls [] else none := r_callV (kd := 0) (by decide +kernel : decode (mB 113) 21 = .ok (.invokevirtual 57, 3)) (by decide +kernel) ((doV_n np_109).trans rfl)
theorem t113_24 : rn 113 24 ls r M = rn 113 48 ls r M := r_goto (o := 24) (by decide +kernel : decode (mB 113) 24 = .ok (.goto 24, 3)) (by decide)
theorem t113_27 : rn 113 27 (some (.ref a) :: l) r M = rn 113 28 (some (.ref a) :: l) (.ref a :: r) M := r_aload_n (by decide +kernel : decode (mB 113) 27 = .ok (.aload_n 0, 1)) rfl
theorem t113_28 : rn 113 28 (a0 :: some (.int x) :: l) r M = rn 113 29 (a0 :: some (.int x) :: l) (.int x :: r) M := r_iload_n (by decide +kernel : decode (mB 113) 28 = .ok (.iload_n 1, 1)) rfl
theorem t113_29 : rn 113 29 ls r M = rn 113 31 ls (.int 7 :: r) M := r_nx (by decide +kernel : decode (mB 113) 29 = .ok (.bipush 7, 2)) rfl rfl
theorem t113_31 : rn 113 31 (some (.ref a) :: l) r M = rn 113 32 (some (.ref a) :: l) (.ref a :: r) M := r_aload_n (by decide +kernel : decode (mB 113) 31 = .ok (.aload_n 0, 1)) rfl
theorem t113_32 : rn 113 32 (a0 :: some (.int x) :: l) r M = rn 113 33 (a0 :: some (.int x) :: l) (.int x :: r) M := r_iload_n (by decide +kernel : decode (mB 113) 32 = .ok (.iload_n 1, 1)) rfl
theorem t113_33 : rn 113 33 ls r M = rn 113 35 ls (.int 7 :: r) M := r_nx (by decide +kernel : decode (mB 113) 33 = .ok (.bipush 7, 2)) rfl rfl
theorem t113_35 : rn 113 35 ls [.int x, .int y, .ref a, .int z, .int w, .ref b] M = if mK M a = (19, 0) then cbn (cl 111 [.ref a, .int y, .int x] M) 113 38 ls [.int z, .int w, .ref b] else none := r_callV (kd := 0) (by decide +kernel : decode (mB 113) 35 = .ok (.invokevirtual 53, 3)) (by decide +kernel) ((doV_n np_111).trans rfl)
theorem t113_38 : rn 113 38 ls r M = rn 113 39 ls (.int 1 :: r) M := r_nx (by decide +kernel : decode (mB 113) 38 = .ok (.iconst 1, 1)) rfl rfl
theorem t113_39 : rn 113 39 (a0 :: a1 :: some (.int x) :: l) r M = rn 113 40 (a0 :: a1 :: some (.int x) :: l) (.int x :: r) M := r_iload_n (by decide +kernel : decode (mB 113) 39 = .ok (.iload_n 2, 1)) rfl
theorem t113_40 : rn 113 40 ls r M = rn 113 42 ls (.int 20 :: r) M := r_nx (by decide +kernel : decode (mB 113) 40 = .ok (.bipush 20, 2)) rfl rfl
theorem t113_42 : rn 113 42 ls (.int y :: .int x :: r) M = rn 113 43 ls (.int (x - y) :: r) M := r_nx (by decide +kernel : decode (mB 113) 42 = .ok (.isub, 1)) rfl rfl
theorem t113_43 : rn 113 43 ls (.int y :: .int x :: r) M = rn 113 44 ls (.int (x <<< (y &&& 31)) :: r) M := r_nx (by decide +kernel : decode (mB 113) 43 = .ok (.ishl, 1)) rfl rfl
theorem t113_44 : rn 113 44 ls (.int y :: .int x :: r) M = rn 113 45 ls (.int (x ||| y) :: r) M := r_nx (by decide +kernel : decode (mB 113) 44 = .ok (.ior, 1)) rfl rfl
theorem t113_45 : rn 113 45 ls [.int x, .int y, .int z, .ref a] M = if mK M a = (19, 0) then cbn (cl 109 [.ref a, .int z, .int y, .int x] M) 113 48 ls [] else none := r_callV (kd := 0) (by decide +kernel : decode (mB 113) 45 = .ok (.invokevirtual 57, 3)) (by decide +kernel) ((doV_n np_109).trans rfl)
theorem t113_48 : rn 113 48 ls [] M = some (none, M) := r_vreturn (by decide +kernel : decode (mB 113) 48 = .ok (.return_, 1)) rfl
-- 114 DRModel_hasDirectory(I)Z
theorem t114_0 : rn 114 0 (some (.ref a) :: l) r M = rn 114 1 (some (.ref a) :: l) (.ref a :: r) M := r_aload_n (by decide +kernel : decode (mB 114) 0 = .ok (.aload_n 0, 1)) rfl
theorem t114_1 : rn 114 1 (a0 :: some (.int x) :: l) r M = rn 114 2 (a0 :: some (.int x) :: l) (.int x :: r) M := r_iload_n (by decide +kernel : decode (mB 114) 1 = .ok (.iload_n 1, 1)) rfl
theorem t114_2 : rn 114 2 ls r M = rn 114 3 ls (.int 0 :: r) M := r_nx (by decide +kernel : decode (mB 114) 2 = .ok (.iconst 0, 1)) rfl rfl
theorem t114_3 : rn 114 3 ls [.int x, .int y, .ref a] M = if mK M a = (19, 0) then cbn (cl 111 [.ref a, .int y, .int x] M) 114 6 ls [] else none := r_callV (kd := 0) (by decide +kernel : decode (mB 114) 3 = .ok (.invokevirtual 53, 3)) (by decide +kernel) ((doV_n np_111).trans rfl)
theorem t114_6 : rn 114 6 ls (.int x :: r) M = if x = 0 then rn 114 19 ls r M else rn 114 9 ls r M := r_if (o := 13) (r := r) (c := x = 0) (by decide +kernel : decode (mB 114) 6 = .ok (.ifCond .eq 13, 3)) rfl (by decide) rfl
theorem t114_9 : rn 114 9 (some (.ref a) :: l) r M = rn 114 10 (some (.ref a) :: l) (.ref a :: r) M := r_aload_n (by decide +kernel : decode (mB 114) 9 = .ok (.aload_n 0, 1)) rfl
theorem t114_10 : rn 114 10 (a0 :: some (.int x) :: l) r M = rn 114 11 (a0 :: some (.int x) :: l) (.int x :: r) M := r_iload_n (by decide +kernel : decode (mB 114) 10 = .ok (.iload_n 1, 1)) rfl
theorem t114_11 : rn 114 11 ls r M = rn 114 12 ls (.int 0 :: r) M := r_nx (by decide +kernel : decode (mB 114) 11 = .ok (.iconst 0, 1)) rfl rfl
theorem t114_12 : rn 114 12 ls [.int x, .int y, .ref a] M = if mK M a = (19, 0) then cbn (cl 111 [.ref a, .int y, .int x] M) 114 15 ls [] else none := r_callV (kd := 0) (by decide +kernel : decode (mB 114) 12 = .ok (.invokevirtual 53, 3)) (by decide +kernel) ((doV_n np_111).trans rfl)
theorem t114_15 : rn 114 15 ls r M = rn 114 16 ls (.int 2 :: r) M := r_nx (by decide +kernel : decode (mB 114) 15 = .ok (.iconst 2, 1)) rfl rfl
theorem t114_16 : rn 114 16 ls (.int y :: .int x :: r) M = if ¬ x = y then rn 114 23 ls r M else rn 114 19 ls r M := r_if (o := 7) (r := r) (c := ¬ x = y) (by decide +kernel : decode (mB 114) 16 = .ok (.if_icmp .ne 7, 3)) rfl (by decide) rfl
theorem t114_19 : rn 114 19 ls r M = rn 114 20 ls (.int 1 :: r) M := r_nx (by decide +kernel : decode (mB 114) 19 = .ok (.iconst 1, 1)) rfl rfl
theorem t114_20 : rn 114 20 ls r M = rn 114 24 ls r M := r_goto (o := 4) (by decide +kernel : decode (mB 114) 20 = .ok (.goto 4, 3)) (by decide)
theorem t114_23 : rn 114 23 ls r M = rn 114 24 ls (.int 0 :: r) M := r_nx (by decide +kernel : decode (mB 114) 23 = .ok (.iconst 0, 1)) rfl rfl
theorem t114_24 : rn 114 24 ls [.int x] M = if x = 0 ∨ x = 1 then some (some (.int x), M) else none := r_zreturn (by decide +kernel : decode (mB 114) 24 = .ok (.ireturn, 1)) rfl
-- 115 DRModel_latestIn(II)I
theorem t115_0 : rn 115 0 ls r M = rn 115 2 ls (.int (-6) :: r) M := r_nx (by decide +kernel : decode (mB 115) 0 = .ok (.bipush (-6), 2)) rfl rfl
theorem t115_2 : rn 115 2 (a0 :: a1 :: a2 :: a3 :: l) (.int x :: r) M = rn 115 3 (a0 :: a1 :: a2 :: some (.int x) :: l) r M := r_istore_n (by decide +kernel : decode (mB 115) 2 = .ok (.istore_n 3, 1)) (Nat.le_add_left 4 l.length)
theorem t115_3 : rn 115 3 ls r M = rn 115 4 ls (.int 0 :: r) M := r_nx (by decide +kernel : decode (mB 115) 3 = .ok (.iconst 0, 1)) rfl rfl
theorem t115_4 : rn 115 4 (a0 :: a1 :: a2 :: a3 :: a4 :: l) (.int x :: r) M = rn 115 6 (a0 :: a1 :: a2 :: a3 :: some (.int x) :: l) r M := r_istore (by decide +kernel : decode (mB 115) 4 = .ok (.istore 4, 2)) (Nat.le_add_left 5 l.length)
theorem t115_6 : rn 115 6 (a0 :: a1 :: a2 :: a3 :: some (.int x) :: l) r M = rn 115 8 (a0 :: a1 :: a2 :: a3 :: some (.int x) :: l) (.int x :: r) M := r_iload (by decide +kernel : decode (mB 115) 6 = .ok (.iload 4, 2)) rfl
theorem t115_8 : rn 115 8 (a0 :: some (.int x) :: l) r M = rn 115 9 (a0 :: some (.int x) :: l) (.int x :: r) M := r_iload_n (by decide +kernel : decode (mB 115) 8 = .ok (.iload_n 1, 1)) rfl
theorem t115_9 : rn 115 9 ls (.int y :: .int x :: r) M = if y ≤ x then rn 115 45 ls r M else rn 115 12 ls r M := r_if (o := 36) (r := r) (c := y ≤ x) (by decide +kernel : decode (mB 115) 9 = .ok (.if_icmp .ge 36, 3)) rfl (by decide) rfl
theorem t115_12 : rn 115 12 (some (.ref a) :: l) r M = rn 115 13 (some (.ref a) :: l) (.ref a :: r) M := r_aload_n (by decide +kernel : decode (mB 115) 12 = .ok (.aload_n 0, 1)) rfl
theorem t115_13 : rn 115 13 (a0 :: a1 :: a2 :: a3 :: some (.int x) :: l) r M = rn 115 15 (a0 :: a1 :: a2 :: a3 :: some (.int x) :: l) (.int x :: r) M := r_iload (by decide +kernel : decode (mB 115) 13 = .ok (.iload 4, 2)) rfl
theorem t115_15 : rn 115 15 ls [.int x, .ref a] M = if mK M a = (19, 0) then cbn (cl 114 [.ref a, .int x] M) 115 18 ls [] else none := r_callV (kd := 0) (by decide +kernel : decode (mB 115) 15 = .ok (.invokevirtual 61, 3)) (by decide +kernel) ((doV_n np_114).trans rfl)
theorem t115_18 : rn 115 18 ls (.int x :: r) M = if x = 0 then rn 115 37 ls r M else rn 115 21 ls r M := r_if (o := 19) (r := r) (c := x = 0) (by decide +kernel : decode (mB 115) 18 = .ok (.ifCond .eq 19, 3)) rfl (by decide) rfl
theorem t115_21 : rn 115 21 (some (.ref a) :: l) r M = rn 115 22 (some (.ref a) :: l) (.ref a :: r) M := r_aload_n (by decide +kernel : decode (mB 115) 21 = .ok (.aload_n 0, 1)) rfl
theorem t115_22 : rn 115 22 (a0 :: a1 :: a2 :: a3 :: some (.int x) :: l) r M = rn 115 24 (a0 :: a1 :: a2 :: a3 :: some (.int x) :: l) (.int x :: r) M := r_iload (by decide +kernel : decode (mB 115) 22 = .ok (.iload 4, 2)) rfl
theorem t115_24 : rn 115 24 ls r M = rn 115 25 ls (.int 2 :: r) M := r_nx (by decide +kernel : decode (mB 115) 24 = .ok (.iconst 2, 1)) rfl rfl
theorem t115_25 : rn 115 25 ls [.int x, .int y, .ref a] M = if mK M a = (19, 0) then cbn (cl 111 [.ref a, .int y, .int x] M) 115 28 ls [] else none := r_callV (kd := 0) (by decide +kernel : decode (mB 115) 25 = .ok (.invokevirtual 53, 3)) (by decide +kernel) ((doV_n np_111).trans rfl)
theorem t115_28 : rn 115 28 (a0 :: a1 :: some (.int x) :: l) r M = rn 115 29 (a0 :: a1 :: some (.int x) :: l) (.int x :: r) M := r_iload_n (by decide +kernel : decode (mB 115) 28 = .ok (.iload_n 2, 1)) rfl
theorem t115_29 : rn 115 29 ls (.int y :: .int x :: r) M = if ¬ x = y then rn 115 37 ls r M else rn 115 32 ls r M := r_if (o := 8) (r := r) (c := ¬ x = y) (by decide +kernel : decode (mB 115) 29 = .ok (.if_icmp .ne 8, 3)) rfl (by decide) rfl
theorem t115_32 : rn 115 32 (a0 :: a1 :: a2 :: a3 :: some (.int x) :: l) r M = rn 115 34 (a0 :: a1 :: a2 :: a3 :: some (.int x) :: l) (.int x :: r) M := r_iload (by decide +kernel : decode (mB 115) 32 = .ok (.iload 4, 2)) rfl
theorem t115_34 : rn 115 34 ls r M = rn 115 38 ls r M := r_goto (o := 4) (by decide +kernel : decode (mB 115) 34 = .ok (.goto 4, 3)) (by decide)
theorem t115_37 : rn 115 37 (a0 :: a1 :: a2 :: some (.int x) :: l) r M = rn 115 38 (a0 :: a1 :: a2 :: some (.int x) :: l) (.int x :: r) M := r_iload_n (by decide +kernel : decode (mB 115) 37 = .ok (.iload_n 3, 1)) rfl
theorem t115_38 : rn 115 38 (a0 :: a1 :: a2 :: a3 :: l) (.int x :: r) M = rn 115 39 (a0 :: a1 :: a2 :: some (.int x) :: l) r M := r_istore_n (by decide +kernel : decode (mB 115) 38 = .ok (.istore_n 3, 1)) (Nat.le_add_left 4 l.length)
theorem t115_39 : rn 115 39 (a0 :: a1 :: a2 :: a3 :: some (.int x) :: l) r M = rn 115 42 (a0 :: a1 :: a2 :: a3 :: some (.int (x + 1)) :: l) r M := r_iinc (by decide +kernel : decode (mB 115) 39 = .ok (.iinc 4 1, 3)) rfl
theorem t115_42 : rn 115 42 ls r M = rn 115 6 ls r M := r_goto (o := (-36)) (by decide +kernel : decode (mB 115) 42 = .ok (.goto (-36), 3)) (by decide)
theorem t115_45 : rn 115 45 (a0 :: a1 :: a2 :: some (.int x) :: l) r M = rn 115 46 (a0 :: a1 :: a2 :: some (.int x) :: l) (.int x :: r) M := r_iload_n (by decide +kernel : decode (mB 115) 45 = .ok (.iload_n 3, 1)) rfl
theorem t115_46 : rn 115 46 ls [.int x] M = some (some (.int x), M) := r_ireturn (by decide +kernel : decode (mB 115) 46 = .ok (.ireturn, 1)) rfl
-- 116 DRModel_write(II)I
theorem t116_0 : rn 116 0 (some (.ref a) :: l) r M = rn 116 1 (some (.ref a) :: l) (.ref a :: r) M := r_aload_n (by decide +kernel : decode (mB 116) 0 = .ok (.aload_n 0, 1)) rfl
theorem t116_1 : rn 116 1 (a0 :: some (.int x) :: l) r M = rn 116 2 (a0 :: some (.int x) :: l) (.int x :: r) M := r_iload_n (by decide +kernel : decode (mB 116) 1 = .ok (.iload_n 1, 1)) rfl
theorem t116_2 : rn 116 2 ls r M = rn 116 3 ls (.int 0 :: r) M := r_nx (by decide +kernel : decode (mB 116) 2 = .ok (.iconst 0, 1)) rfl rfl
theorem t116_3 : rn 116 3 (a0 :: a1 :: some (.int x) :: l) r M = rn 116 4 (a0 :: a1 :: some (.int x) :: l) (.int x :: r) M := r_iload_n (by decide +kernel : decode (mB 116) 3 = .ok (.iload_n 2, 1)) rfl
theorem t116_4 : rn 116 4 ls [.int x, .int y, .int z, .ref a] M = if mK M a = (19, 0) then cbn (cl 103 [.ref a, .int z, .int y, .int x] M) 116 7 ls [] else none := r_callV (kd := 0) (by decide +kernel : decode (mB 116) 4 = .ok (.invokevirtual 129, 3)) (by decide +kernel) ((doV_n np_103).trans rfl)
theorem t116_7 : rn 116 7 (a0 :: a1 :: a2 :: a3 :: l) (.int x :: r) M = rn 116 8 (a0 :: a1 :: a2 :: some (.int x) :: l) r M := r_istore_n (by decide +kernel : decode (mB 116) 7 = .ok (.istore_n 3, 1)) (Nat.le_add_left 4 l.length)
theorem t116_8 : rn 116 8 (a0 :: a1 :: a2 :: some (.int x) :: l) r M = rn 116 9 (a0 :: a1 :: a2 :: some (.int x) :: l) (.int x :: r) M := r_iload_n (by decide +kernel : decode (mB 116) 8 = .ok (.iload_n 3, 1)) rfl
theorem t116_9 : rn 116 9 ls (.int x :: r) M = if 0 ≤ x then rn 116 14 ls r M else rn 116 12 ls r M := r_if (o := 5) (r := r) (c := 0 ≤ x) (by decide +kernel : decode (mB 116) 9 = .ok (.ifCond .ge 5, 3)) rfl (by decide) rfl
theorem t116_12 : rn 116 12 (a0 :: a1 :: a2 :: some (.int x) :: l) r M = rn 116 13 (a0 :: a1 :: a2 :: some (.int x) :: l) (.int x :: r) M := r_iload_n (by decide +kernel : decode (mB 116) 12 = .ok (.iload_n 3, 1)) rfl
theorem t116_13 : rn 116 13 ls [.int x] M = some (some (.int x), M) := r_ireturn (by decide +kernel : decode (mB 116) 13 = .ok (.ireturn, 1)) rfl
theorem t116_14 : rn 116 14 (some (.ref a) :: l) r M = rn 116 15 (some (.ref a) :: l) (.ref a :: r) M := r_aload_n (by decide +kernel : decode (mB 116) 14 = .ok (.aload_n 0, 1)) rfl
theorem t116_15 : rn 116 15 ls [.ref a] M = if mK M a = (19, 0) then cbn (cl 106 [.ref a] M) 116 18 ls [] else none := r_callV (kd := 0) (by decide +kernel : decode (mB 116) 15 = .ok (.invokevirtual 133, 3)) (by decide +kernel) ((doV_n np_106).trans rfl)
theorem t116_18 : rn 116 18 (some (.ref a) :: l) r M = rn 116 19 (some (.ref a) :: l) (.ref a :: r) M := r_aload_n (by decide +kernel : decode (mB 116) 18 = .ok (.aload_n 0, 1)) rfl
theorem t116_19 : rn 116 19 ls r M = rn 116 20 ls (.int 1 :: r) M := r_nx (by decide +kernel : decode (mB 116) 19 = .ok (.iconst 1, 1)) rfl rfl
theorem t116_20 : rn 116 20 (a0 :: some (.int x) :: l) r M = rn 116 21 (a0 :: some (.int x) :: l) (.int x :: r) M := r_iload_n (by decide +kernel : decode (mB 116) 20 = .ok (.iload_n 1, 1)) rfl
theorem t116_21 : rn 116 21 (a0 :: a1 :: some (.int x) :: l) r M = rn 116 22 (a0 :: a1 :: some (.int x) :: l) (.int x :: r) M := r_iload_n (by decide +kernel : decode (mB 116) 21 = .ok (.iload_n 2, 1)) rfl
theorem t116_22 : rn 116 22 ls [.int x, .int y, .int z, .ref a] M = if mK M a = (19, 0) then cbn (cl 108 [.ref a, .int z, .int y, .int x] M) 116 25 ls [] else none := r_callV (kd := 0) (by decide +kernel : decode (mB 116) 22 = .ok (.invokevirtual 136, 3)) (by decide +kernel) ((doV_n np_108).trans rfl)
theorem t116_25 : rn 116 25 ls [.int x] M = some (some (.int x), M) := r_ireturn (by decide +kernel : decode (mB 116) 25 = .ok (.ireturn, 1)) rfl
-- 117 DRModel_move(II)I
theorem t117_0 : rn 117 0 (some (.ref a) :: l) r M = rn 117 1 (some (.ref a) :: l) (.ref a :: r) M := r_aload_n (by decide +kernel : decode (mB 117) 0 = .ok (.aload_n 0, 1)) rfl
theorem t117_1 : rn 117 1 (a0 :: some (.int x) :: l) r M = rn 117 2 (a0 :: some (.int x) :: l) (.int x :: r) M := r_iload_n (by decide +kernel : decode (mB 117) 1 = .ok (.iload_n 1, 1)) rfl
theorem t117_2 : rn 117 2 (a0 :: a1 :: some (.int x) :: l) r M = rn 117 3 (a0 :: a1 :: some (.int x) :: l) (.int x :: r) M := r_iload_n (by decide +kernel : decode (mB 117) 2 = .ok (.iload_n 2, 1)) rfl
theorem t117_3 : rn 117 3 ls r M = rn 117 4 ls (.int 0 :: r) M := r_nx (by decide +kernel : decode (mB 117) 3 = .ok (.iconst 0, 1)) rfl rfl
theorem t117_4 : rn 117 4 ls [.int x, .int y, .int z, .ref a] M = if mK M a = (19, 0) then cbn (cl 103 [.ref a, .int z, .int y, .int x] M) 117 7 ls [] else none := r_callV (kd := 0) (by decide +kernel : decode (mB 117) 4 = .ok (.invokevirtual 129, 3)) (by decide +kernel) ((doV_n np_103).trans rfl)
theorem t117_7 : rn 117 7 (a0 :: a1 :: a2 :: a3 :: l) (.int x :: r) M = rn 117 8 (a0 :: a1 :: a2 :: some (.int x) :: l) r M := r_istore_n (by decide +kernel : decode (mB 117) 7 = .ok (.istore_n 3, 1)) (Nat.le_add_left 4 l.length)
theorem t117_8 : rn 117 8 (a0 :: a1 :: a2 :: some (.int x) :: l) r M = rn 117 9 (a0 :: a1 :: a2 :: some (.int x) :: l) (.int x :: r) M := r_iload_n (by decide +kernel : decode (mB 117) 8 = .ok (.iload_n 3, 1)) rfl
theorem t117_9 : rn 117 9 ls (.int x :: r) M = if 0 ≤ x then rn 117 14 ls r M else rn 117 12 ls r M := r_if (o := 5) (r := r) (c := 0 ≤ x) (by decide +kernel : decode (mB 117) 9 = .ok (.ifCond .ge 5, 3)) rfl (by decide) rfl
theorem t117_12 : rn 117 12 (a0 :: a1 :: a2 :: some (.int x) :: l) r M = rn 117 13 (a0 :: a1 :: a2 :: some (.int x) :: l) (.int x :: r) M := r_iload_n (by decide +kernel : decode (mB 117) 12 = .ok (.iload_n 3, 1)) rfl
theorem t117_13 : rn 117 13 ls [.int x] M = some (some (.int x), M) := r_ireturn (by decide +kernel : decode (mB 117) 13 = .ok (.ireturn, 1)) rfl
theorem t117_14 : rn 117 14 (some (.ref a) :: l) r M = rn 117 15 (some (.ref a) :: l) (.ref a :: r) M := r_aload_n (by decide +kernel : decode (mB 117) 14 = .ok (.aload_n 0, 1)) rfl
theorem t117_15 : rn 117 15 ls [.ref a] M = if mK M a = (19, 0) then cbn (cl 106 [.ref a] M) 117 18 ls [] else none := r_callV (kd := 0) (by decide +kernel : decode (mB 117) 15 = .ok (.invokevirtual 133, 3)) (by decide +kernel) ((doV_n np_106).trans rfl)
theorem t117_18 : rn 117 18 (some (.ref a) :: l) r M = rn 117 19 (some (.ref a) :: l) (.ref a :: r) M := r_aload_n (by decide +kernel : decode (mB 117) 18 = .ok (.aload_n 0, 1)) rfl
theorem t117_19 : rn 117 19 ls r M = rn 117 20 ls (.int 2 :: r) M := r_nx (by decide +kernel : decode (mB 117) 19 = .ok (.iconst 2, 1)) rfl rfl
theorem t117_20 : rn 117 20 (a0 :: some (.int x) :: l) r M = rn 117 21 (a0 :: some (.int x) :: l) (.int x :: r) M := r_iload_n (by decide +kernel : decode (mB 117) 20 = .ok (.iload_n 1, 1)) rfl
theorem t117_21 : rn 117 21 (a0 :: a1 :: some (.int x) :: l) r M = rn 117 22 (a0 :: a1 :: some (.int x) :: l) (.int x :: r) M := r_iload_n (by decide +kernel : decode (mB 117) 21 = .ok (.iload_n 2, 1)) rfl
theorem t117_22 : rn 117 22 ls [.int x, .int y, .int z, .ref a] M = if mK M a = (19, 0) then cbn (cl 108 [.ref a, .int z, .int y, .int x] M) 117 25 ls [] else none := r_callV (kd := 0) (by decide +kernel : decode (mB 117) 22 = .ok (.invokevirtual 136, 3)) (by decide +kernel) ((doV_n np_108).trans rfl)
theorem t117_25 : rn 117 25 ls [.int x] M = some (some (.int x), M) := r_ireturn (by decide +kernel : decode (mB 117) 25 = .ok (.ireturn, 1)) rfl
-- 118 DRModel_drop(I)I
theorem t118_0 : rn 118 0 (some (.ref a) :: l) r M = rn 118 1 (some (.ref a) :: l) (.ref a :: r) M := r_aload_n (by decide +kernel : decode (mB 118) 0 = .ok (.aload_n 0, 1)) rfl
theorem t118_1 : rn 118 1 (a0 :: some (.int x) :: l) r M = rn 118 2 (a0 :: some (.int x) :: l) (.int x :: r) M := r_iload_n (by decide +kernel : decode (mB 118) 1 = .ok (.iload_n 1, 1)) rfl
theorem t118_2 : rn 118 2 ls r M = rn 118 3 ls (.int 0 :: r) M := r_nx (by decide +kernel : decode (mB 118) 2 = .ok (.iconst 0, 1)) rfl rfl
theorem t118_3 : rn 118 3 ls r M = rn 118 4 ls (.int 0 :: r) M := r_nx (by decide +kernel : decode (mB 118) 3 = .ok (.iconst 0, 1)) rfl rfl
theorem t118_4 : rn 118 4 ls [.int x, .int y, .int z, .ref a] M = if mK M a = (19, 0) then cbn (cl 103 [.ref a, .int z, .int y, .int x] M) 118 7 ls [] else none := r_callV (kd := 0) (by decide +kernel : decode (mB 118) 4 = .ok (.invokevirtual 129, 3)) (by decide +kernel) ((doV_n np_103).trans rfl)
theorem t118_7 : rn 118 7 (a0 :: a1 :: a2 :: l) (.int x :: r) M = rn 118 8 (a0 :: a1 :: some (.int x) :: l) r M := r_istore_n (by decide +kernel : decode (mB 118) 7 = .ok (.istore_n 2, 1)) (Nat.le_add_left 3 l.length)
theorem t118_8 : rn 118 8 (a0 :: a1 :: some (.int x) :: l) r M = rn 118 9 (a0 :: a1 :: some (.int x) :: l) (.int x :: r) M := r_iload_n (by decide +kernel : decode (mB 118) 8 = .ok (.iload_n 2, 1)) rfl
theorem t118_9 : rn 118 9 ls (.int x :: r) M = if 0 ≤ x then rn 118 14 ls r M else rn 118 12 ls r M := r_if (o := 5) (r := r) (c := 0 ≤ x) (by decide +kernel : decode (mB 118) 9 = .ok (.ifCond .ge 5, 3)) rfl (by decide) rfl
theorem t118_12 : rn 118 12 (a0 :: a1 :: some (.int x) :: l) r M = rn 118 13 (a0 :: a1 :: some (.int x) :: l) (.int x :: r) M := r_iload_n (by decide +kernel : decode (mB 118) 12 = .ok (.iload_n 2, 1)) rfl
theorem t118_13 : rn 118 13 ls [.int x] M = some (some (.int x), M) := r_ireturn (by decide +kernel : decode (mB 118) 13 = .ok (.ireturn, 1)) rfl
theorem t118_14 : rn 118 14 (some (.ref a) :: l) r M = rn 118 15 (some (.ref a) :: l) (.ref a :: r) M := r_aload_n (by decide +kernel : decode (mB 118) 14 = .ok (.aload_n 0, 1)) rfl
theorem t118_15 : rn 118 15 ls [.ref a] M = if mK M a = (19, 0) then cbn (cl 106 [.ref a] M) 118 18 ls [] else none := r_callV (kd := 0) (by decide +kernel : decode (mB 118) 15 = .ok (.invokevirtual 133, 3)) (by decide +kernel) ((doV_n np_106).trans rfl)
theorem t118_18 : rn 118 18 (some (.ref a) :: l) r M = rn 118 19 (some (.ref a) :: l) (.ref a :: r) M := r_aload_n (by decide +kernel : decode (mB 118) 18 = .ok (.aload_n 0, 1)) rfl
theorem t118_19 : rn 118 19 ls r M = rn 118 20 ls (.int 3 :: r) M := r_nx (by decide +kernel : decode (mB 118) 19 = .ok (.iconst 3, 1)) rfl rfl
theorem t118_20 : rn 118 20 (a0 :: some (.int x) :: l) r M = rn 118 21 (a0 :: some (.int x) :: l) (.int x :: r) M := r_iload_n (by decide +kernel : decode (mB 118) 20 = .ok (.iload_n 1, 1)) rfl
theorem t118_21 : rn 118 21 ls r M = rn 118 23 ls (.int (-6) :: r) M := r_nx (by decide +kernel : decode (mB 118) 21 = .ok (.bipush (-6), 2)) rfl rfl
theorem t118_23 : rn 118 23 ls [.int x, .int y, .int z, .ref a] M = if mK M a = (19, 0) then cbn (cl 108 [.ref a, .int z, .int y, .int x] M) 118 26 ls [] else none := r_callV (kd := 0) (by decide +kernel : decode (mB 118) 23 = .ok (.invokevirtual 136, 3)) (by decide +kernel) ((doV_n np_108).trans rfl)
theorem t118_26 : rn 118 26 ls [.int x] M = some (some (.int x), M) := r_ireturn (by decide +kernel : decode (mB 118) 26 = .ok (.ireturn, 1)) rfl
-- 119 DRModel_need(II)I
theorem t119_0 : rn 119 0 (some (.ref a) :: l) r M = rn 119 1 (some (.ref a) :: l) (.ref a :: r) M := r_aload_n (by decide +kernel : decode (mB 119) 0 = .ok (.aload_n 0, 1)) rfl
theorem t119_1 : rn 119 1 (a0 :: some (.int x) :: l) r M = rn 119 2 (a0 :: some (.int x) :: l) (.int x :: r) M := r_iload_n (by decide +kernel : decode (mB 119) 1 = .ok (.iload_n 1, 1)) rfl
theorem t119_2 : rn 119 2 (a0 :: a1 :: some (.int x) :: l) r M = rn 119 3 (a0 :: a1 :: some (.int x) :: l) (.int x :: r) M := r_iload_n (by decide +kernel : decode (mB 119) 2 = .ok (.iload_n 2, 1)) rfl
theorem t119_3 : rn 119 3 ls [.int x, .int y, .ref a] M = if mK M a = (19, 0) then cbn (cl 120 [.ref a, .int y, .int x] M) 119 6 ls [] else none := r_callV (kd := 0) (by decide +kernel : decode (mB 119) 3 = .ok (.invokevirtual 145, 3)) (by decide +kernel) ((doV_n np_120).trans rfl)
theorem t119_6 : rn 119 6 (a0 :: a1 :: a2 :: a3 :: l) (.int x :: r) M = rn 119 7 (a0 :: a1 :: a2 :: some (.int x) :: l) r M := r_istore_n (by decide +kernel : decode (mB 119) 6 = .ok (.istore_n 3, 1)) (Nat.le_add_left 4 l.length)
theorem t119_7 : rn 119 7 (a0 :: a1 :: a2 :: some (.int x) :: l) r M = rn 119 8 (a0 :: a1 :: a2 :: some (.int x) :: l) (.int x :: r) M := r_iload_n (by decide +kernel : decode (mB 119) 7 = .ok (.iload_n 3, 1)) rfl
theorem t119_8 : rn 119 8 ls (.int x :: r) M = if 0 ≤ x then rn 119 13 ls r M else rn 119 11 ls r M := r_if (o := 5) (r := r) (c := 0 ≤ x) (by decide +kernel : decode (mB 119) 8 = .ok (.ifCond .ge 5, 3)) rfl (by decide) rfl
theorem t119_11 : rn 119 11 (a0 :: a1 :: a2 :: some (.int x) :: l) r M = rn 119 12 (a0 :: a1 :: a2 :: some (.int x) :: l) (.int x :: r) M := r_iload_n (by decide +kernel : decode (mB 119) 11 = .ok (.iload_n 3, 1)) rfl
theorem t119_12 : rn 119 12 ls [.int x] M = some (some (.int x), M) := r_ireturn (by decide +kernel : decode (mB 119) 12 = .ok (.ireturn, 1)) rfl
theorem t119_13 : rn 119 13 (some (.ref a) :: l) r M = rn 119 14 (some (.ref a) :: l) (.ref a :: r) M := r_aload_n (by decide +kernel : decode (mB 119) 13 = .ok (.aload_n 0, 1)) rfl
theorem t119_14 : rn 119 14 ls [.ref a] M = if mK M a = (19, 0) then cbn (cl 106 [.ref a] M) 119 17 ls [] else none := r_callV (kd := 0) (by decide +kernel : decode (mB 119) 14 = .ok (.invokevirtual 133, 3)) (by decide +kernel) ((doV_n np_106).trans rfl)
theorem t119_17 : rn 119 17 (some (.ref a) :: l) r M = rn 119 18 (some (.ref a) :: l) (.ref a :: r) M := r_aload_n (by decide +kernel : decode (mB 119) 17 = .ok (.aload_n 0, 1)) rfl
theorem t119_18 : rn 119 18 (a0 :: some (.int x) :: l) r M = rn 119 19 (a0 :: some (.int x) :: l) (.int x :: r) M := r_iload_n (by decide +kernel : decode (mB 119) 18 = .ok (.iload_n 1, 1)) rfl
theorem t119_19 : rn 119 19 (a0 :: a1 :: some (.int x) :: l) r M = rn 119 20 (a0 :: a1 :: some (.int x) :: l) (.int x :: r) M := r_iload_n (by decide +kernel : decode (mB 119) 19 = .ok (.iload_n 2, 1)) rfl
theorem t119_20 : rn 119 20 ls [.int x, .int y, .ref a] M = if mK M a = (19, 0) then cbn (cl 122 [.ref a, .int y, .int x] M) 119 23 ls [] else none := r_callV (kd := 0) (by decide +kernel : decode (mB 119) 20 = .ok (.invokevirtual 148, 3)) (by decide +kernel) ((doV_n np_122).trans rfl)
theorem t119_23 : rn 119 23 ls [.int x] M = some (some (.int x), M) := r_ireturn (by decide +kernel : decode (mB 119) 23 = .ok (.ireturn, 1)) rfl
-- 120 DRModel_whyNotNeeded(II)I
theorem t120_0 : rn 120 0 (some (.ref a) :: l) r M = rn 120 1 (some (.ref a) :: l) (.ref a :: r) M := r_aload_n (by decide +kernel : decode (mB 120) 0 = .ok (.aload_n 0, 1)) rfl
theorem t120_1 : rn 120 1 (a0 :: some (.int x) :: l) r M = rn 120 2 (a0 :: some (.int x) :: l) (.int x :: r) M := r_iload_n (by decide +kernel : decode (mB 120) 1 = .ok (.iload_n 1, 1)) rfl
theorem t120_2 : rn 120 2 ls [.int x, .ref a] M = if mK M a = (19, 0) then cbn (cl 121 [.ref a, .int x] M) 120 5 ls [] else none := r_callV (kd := 0) (by decide +kernel : decode (mB 120) 2 = .ok (.invokevirtual 139, 3)) (by decide +kernel) ((doV_n np_121).trans rfl)
theorem t120_5 : rn 120 5 ls (.int x :: r) M = if x = 0 then rn 120 16 ls r M else rn 120 8 ls r M := r_if (o := 11) (r := r) (c := x = 0) (by decide +kernel : decode (mB 120) 5 = .ok (.ifCond .eq 11, 3)) rfl (by decide) rfl
theorem t120_8 : rn 120 8 (some (.ref a) :: l) r M = rn 120 9 (some (.ref a) :: l) (.ref a :: r) M := r_aload_n (by decide +kernel : decode (mB 120) 8 = .ok (.aload_n 0, 1)) rfl
theorem t120_9 : rn 120 9 (a0 :: a1 :: some (.int x) :: l) r M = rn 120 10 (a0 :: a1 :: some (.int x) :: l) (.int x :: r) M := r_iload_n (by decide +kernel : decode (mB 120) 9 = .ok (.iload_n 2, 1)) rfl
theorem t120_10 : rn 120 10 ls [.int x, .ref a] M = if mK M a = (19, 0) then cbn (cl 121 [.ref a, .int x] M) 120 13 ls [] else none := r_callV (kd := 0) (by decide +kernel : decode (mB 120) 10 = .ok (.invokevirtual 139, 3)) (by decide +kernel) ((doV_n np_121).trans rfl)
theorem t120_13 : rn 120 13 ls (.int x :: r) M = if ¬ x = 0 then rn 120 20 ls r M else rn 120 16 ls r M := r_if (o := 7) (r := r) (c := ¬ x = 0) (by decide +kernel : decode (mB 120) 13 = .ok (.ifCond .ne 7, 3)) rfl (by decide) rfl
theorem t120_16 : rn 120 16 ls r M = rn 120 17 ls (.int (-1) :: r) M := r_nx (by decide +kernel : decode (mB 120) 16 = .ok (.iconst (-1), 1)) rfl rfl
theorem t120_17 : rn 120 17 ls r M = rn 120 31 ls r M := r_goto (o := 14) (by decide +kernel : decode (mB 120) 17 = .ok (.goto 14, 3)) (by decide)
theorem t120_20 : rn 120 20 (a0 :: a1 :: some (.int x) :: l) r M = rn 120 21 (a0 :: a1 :: some (.int x) :: l) (.int x :: r) M := r_iload_n (by decide +kernel : decode (mB 120) 20 = .ok (.iload_n 2, 1)) rfl
theorem t120_21 : rn 120 21 (a0 :: some (.int x) :: l) r M = rn 120 22 (a0 :: some (.int x) :: l) (.int x :: r) M := r_iload_n (by decide +kernel : decode (mB 120) 21 = .ok (.iload_n 1, 1)) rfl
theorem t120_22 : rn 120 22 ls (.int y :: .int x :: r) M = if y ≤ x then rn 120 29 ls r M else rn 120 25 ls r M := r_if (o := 7) (r := r) (c := y ≤ x) (by decide +kernel : decode (mB 120) 22 = .ok (.if_icmp .ge 7, 3)) rfl (by decide) rfl
theorem t120_25 : rn 120 25 ls r M = rn 120 26 ls (.int 0 :: r) M := r_nx (by decide +kernel : decode (mB 120) 25 = .ok (.iconst 0, 1)) rfl rfl
theorem t120_26 : rn 120 26 ls r M = rn 120 31 ls r M := r_goto (o := 5) (by decide +kernel : decode (mB 120) 26 = .ok (.goto 5, 3)) (by decide)
theorem t120_29 : rn 120 29 ls r M = rn 120 31 ls (.int (-5) :: r) M := r_nx (by decide +kernel : decode (mB 120) 29 = .ok (.bipush (-5), 2)) rfl rfl
theorem t120_31 : rn 120 31 ls [.int x] M = some (some (.int x), M) := r_ireturn (by decide +kernel : decode (mB 120) 31 = .ok (.ireturn, 1)) rfl
-- 121 DRModel_isEntry(I)Z
theorem t121_0 : rn 121 0 (a0 :: some (.int x) :: l) r M = rn 121 1 (a0 :: some (.int x) :: l) (.int x :: r) M := r_iload_n (by decide +kernel : decode (mB 121) 0 = .ok (.iload_n 1, 1)) rfl
theorem t121_1 : rn 121 1 ls r M = rn 121 2 ls (.int 0 :: r) M := r_nx (by decide +kernel : decode (mB 121) 1 = .ok (.iconst 0, 1)) rfl rfl
theorem t121_2 : rn 121 2 (some (.ref a) :: l) r M = rn 121 3 (some (.ref a) :: l) (.ref a :: r) M := r_aload_n (by decide +kernel : decode (mB 121) 2 = .ok (.aload_n 0, 1)) rfl
theorem t121_3 : rn 121 3 ls (.ref a :: r) M = if mK M a = (19, 0) then rn 121 6 ls (va_rf (mP M a 0) :: r) M else none := r_getP (ci := 9) (k := 0) (by decide +kernel : decode (mB 121) 3 = .ok (.getfield 7, 3)) (by decide +kernel) rfl
theorem t121_6 : rn 121 6 ls r M = rn 121 7 ls (.int 0 :: r) M := r_nx (by decide +kernel : decode (mB 121) 6 = .ok (.iconst 0, 1)) rfl rfl
theorem t121_7 : rn 121 7 ls (.int x :: .ref a :: r) M = if ((mK M a).1 = 1 ∨ (mK M a).1 = 5) ∧ inR x (mK M a).2 then rn 121 8 ls (.int (mI M a x.toNatClampNeg) :: r) M else none := r_cnd (by decide +kernel : decode (mB 121) 7 = .ok (.iaload, 1)) rfl rfl
theorem t121_8 : rn 121 8 ls r M = rn 121 9 ls (.int 1 :: r) M := r_nx (by decide +kernel : decode (mB 121) 8 = .ok (.iconst 1, 1)) rfl rfl
theorem t121_9 : rn 121 9 ls (.int y :: .int x :: r) M = rn 121 10 ls (.int (x - y) :: r) M := r_nx (by decide +kernel : decode (mB 121) 9 = .ok (.isub, 1)) rfl rfl
theorem t121_10 : rn 121 10 ls [.int x, .int y, .int z] M = cbn (cl 104 [.int z, .int y, .int x] M) 121 13 ls [] := r_callS (kd := 2) (by decide +kernel : decode (mB 121) 10 = .ok (.invokestatic 49, 3)) (by decide +kernel) (by decide +kernel) ((doS_n np_104).trans rfl)
theorem t121_13 : rn 121 13 ls [.int x] M = if x = 0 ∨ x = 1 then some (some (.int x), M) else none := r_zreturn (by decide +kernel : decode (mB 121) 13 = .ok (.ireturn, 1)) rfl
-- 122 DRModel_needed(II)I
theorem t122_0 : rn 122 0 (some (.ref a) :: l) r M = rn 122 1 (some (.ref a) :: l) (.ref a :: r) M := r_aload_n (by decide +kernel : decode (mB 122) 0 = .ok (.aload_n 0, 1)) rfl
theorem t122_1 : rn 122 1 (a0 :: some (.int x) :: l) r M = rn 122 2 (a0 :: some (.int x) :: l) (.int x :: r) M := r_iload_n (by decide +kernel : decode (mB 122) 1 = .ok (.iload_n 1, 1)) rfl
theorem t122_2 : rn 122 2 (a0 :: a1 :: some (.int x) :: l) r M = rn 122 3 (a0 :: a1 :: some (.int x) :: l) (.int x :: r) M := r_iload_n (by decide +kernel : decode (mB 122) 2 = .ok (.iload_n 2, 1)) rfl
theorem t122_3 : rn 122 3 ls [.int x, .int y, .ref a] M = if mK M a = (19, 0) then cbn (cl 113 [.ref a, .int y, .int x] M) 122 6 ls [] else none := r_callV (kd := 0) (by decide +kernel : decode (mB 122) 3 = .ok (.invokevirtual 65, 3)) (by decide +kernel) ((doV_n np_113).trans rfl)
theorem t122_6 : rn 122 6 (some (.ref a) :: l) r M = rn 122 7 (some (.ref a) :: l) (.ref a :: r) M := r_aload_n (by decide +kernel : decode (mB 122) 6 = .ok (.aload_n 0, 1)) rfl
theorem t122_7 : rn 122 7 ls [.ref a] M = if mK M a = (19, 0) then cbn (cl 123 [.ref a] M) 122 10 ls [] else none := r_callV (kd := 0) (by decide +kernel : decode (mB 122) 7 = .ok (.invokevirtual 142, 3)) (by decide +kernel) ((doV_n np_123).trans rfl)
theorem t122_10 : rn 122 10 (some (.ref a) :: l) r M = rn 122 11 (some (.ref a) :: l) (.ref a :: r) M := r_aload_n (by decide +kernel : decode (mB 122) 10 = .ok (.aload_n 0, 1)) rfl
theorem t122_11 : rn 122 11 (a0 :: some (.int x) :: l) r M = rn 122 12 (a0 :: some (.int x) :: l) (.int x :: r) M := r_iload_n (by decide +kernel : decode (mB 122) 11 = .ok (.iload_n 1, 1)) rfl
theorem t122_12 : rn 122 12 ls [.int x, .ref a] M = if mK M a = (19, 0) then cbn (cl 124 [.ref a, .int x] M) 122 15 ls [] else none := r_callV (kd := 0) (by decide +kernel : decode (mB 122) 12 = .ok (.invokevirtual 78, 3)) (by decide +kernel) ((doV_n np_124).trans rfl)
theorem t122_15 : rn 122 15 ls [.long u] M = cbn (cl 125 [.long u] M) 122 18 ls [] := r_callS (kd := 2) (by decide +kernel : decode (mB 122) 15 = .ok (.invokestatic 118, 3)) (by decide +kernel) (by decide +kernel) ((doS_n np_125).trans rfl)
theorem t122_18 : rn 122 18 ls [.int x] M = some (some (.int x), M) := r_ireturn (by decide +kernel : decode (mB 122) 18 = .ok (.ireturn, 1)) rfl
-- 123 DRModel_beginsAnew()V
theorem t123_0 : rn 123 0 ls r M = rn 123 1 ls (.int 0 :: r) M := r_nx (by decide +kernel : decode (mB 123) 0 = .ok (.iconst 0, 1)) rfl rfl
theorem t123_1 : rn 123 1 (a0 :: a1 :: l) (.int x :: r) M = rn 123 2 (a0 :: some (.int x) :: l) r M := r_istore_n (by decide +kernel : decode (mB 123) 1 = .ok (.istore_n 1, 1)) (Nat.le_add_left 2 l.length)
theorem t123_2 : rn 123 2 (a0 :: some (.int x) :: l) r M = rn 123 3 (a0 :: some (.int x) :: l) (.int x :: r) M := r_iload_n (by decide +kernel : decode (mB 123) 2 = .ok (.iload_n 1, 1)) rfl
theorem t123_3 : rn 123 3 (some (.ref a) :: l) r M = rn 123 4 (some (.ref a) :: l) (.ref a :: r) M := r_aload_n (by decide +kernel : decode (mB 123) 3 = .ok (.aload_n 0, 1)) rfl
theorem t123_4 : rn 123 4 ls (.ref a :: r) M = if mK M a = (19, 0) then rn 123 7 ls (va_rf (mP M a 0) :: r) M else none := r_getP (ci := 9) (k := 0) (by decide +kernel : decode (mB 123) 4 = .ok (.getfield 7, 3)) (by decide +kernel) rfl
theorem t123_7 : rn 123 7 ls r M = rn 123 8 ls (.int 0 :: r) M := r_nx (by decide +kernel : decode (mB 123) 7 = .ok (.iconst 0, 1)) rfl rfl
theorem t123_8 : rn 123 8 ls (.int x :: .ref a :: r) M = if ((mK M a).1 = 1 ∨ (mK M a).1 = 5) ∧ inR x (mK M a).2 then rn 123 9 ls (.int (mI M a x.toNatClampNeg) :: r) M else none := r_cnd (by decide +kernel : decode (mB 123) 8 = .ok (.iaload, 1)) rfl rfl
theorem t123_9 : rn 123 9 ls (.int y :: .int x :: r) M = if y ≤ x then rn 123 34 ls r M else rn 123 12 ls r M := r_if (o := 25) (r := r) (c := y ≤ x) (by decide +kernel : decode (mB 123) 9 = .ok (.if_icmp .ge 25, 3)) rfl (by decide) rfl
theorem t123_12 : rn 123 12 (some (.ref a) :: l) r M = rn 123 13 (some (.ref a) :: l) (.ref a :: r) M := r_aload_n (by decide +kernel : decode (mB 123) 12 = .ok (.aload_n 0, 1)) rfl
theorem t123_13 : rn 123 13 (a0 :: some (.int x) :: l) r M = rn 123 14 (a0 :: some (.int x) :: l) (.int x :: r) M := r_iload_n (by decide +kernel : decode (mB 123) 13 = .ok (.iload_n 1, 1)) rfl
theorem t123_14 : rn 123 14 ls r M = rn 123 15 ls (.int 4 :: r) M := r_nx (by decide +kernel : decode (mB 123) 14 = .ok (.iconst 4, 1)) rfl rfl
theorem t123_15 : rn 123 15 ls r M = rn 123 17 ls (.int (-6) :: r) M := r_nx (by decide +kernel : decode (mB 123) 15 = .ok (.bipush (-6), 2)) rfl rfl
theorem t123_17 : rn 123 17 ls [.int x, .int y, .int z, .ref a] M = if mK M a = (19, 0) then cbn (cl 109 [.ref a, .int z, .int y, .int x] M) 123 20 ls [] else none := r_callV (kd := 0) (by decide +kernel : decode (mB 123) 17 = .ok (.invokevirtual 57, 3)) (by decide +kernel) ((doV_n np_109).trans rfl)
theorem t123_20 : rn 123 20 (some (.ref a) :: l) r M = rn 123 21 (some (.ref a) :: l) (.ref a :: r) M := r_aload_n (by decide +kernel : decode (mB 123) 20 = .ok (.aload_n 0, 1)) rfl
theorem t123_21 : rn 123 21 (a0 :: some (.int x) :: l) r M = rn 123 22 (a0 :: some (.int x) :: l) (.int x :: r) M := r_iload_n (by decide +kernel : decode (mB 123) 21 = .ok (.iload_n 1, 1)) rfl
theorem t123_22 : rn 123 22 ls r M = rn 123 23 ls (.int 5 :: r) M := r_nx (by decide +kernel : decode (mB 123) 22 = .ok (.iconst 5, 1)) rfl rfl
theorem t123_23 : rn 123 23 ls r M = rn 123 25 ls (.int (-6) :: r) M := r_nx (by decide +kernel : decode (mB 123) 23 = .ok (.bipush (-6), 2)) rfl rfl
theorem t123_25 : rn 123 25 ls [.int x, .int y, .int z, .ref a] M = if mK M a = (19, 0) then cbn (cl 109 [.ref a, .int z, .int y, .int x] M) 123 28 ls [] else none := r_callV (kd := 0) (by decide +kernel : decode (mB 123) 25 = .ok (.invokevirtual 57, 3)) (by decide +kernel) ((doV_n np_109).trans rfl)
theorem t123_28 : rn 123 28 (a0 :: some (.int x) :: l) r M = rn 123 31 (a0 :: some (.int (x + 1)) :: l) r M := r_iinc (by decide +kernel : decode (mB 123) 28 = .ok (.iinc 1 1, 3)) rfl
theorem t123_31 : rn 123 31 ls r M = rn 123 2 ls r M := r_goto (o := (-29)) (by decide +kernel : decode (mB 123) 31 = .ok (.goto (-29), 3)) (by decide)
theorem t123_34 : rn 123 34 (some (.ref a) :: l) r M = rn 123 35 (some (.ref a) :: l) (.ref a :: r) M := r_aload_n (by decide +kernel : decode (mB 123) 34 = .ok (.aload_n 0, 1)) rfl
theorem t123_35 : rn 123 35 ls (.ref a :: r) M = if mK M a = (19, 0) then rn 123 38 ls (va_rf (mP M a 0) :: r) M else none := r_getP (ci := 9) (k := 0) (by decide +kernel : decode (mB 123) 35 = .ok (.getfield 7, 3)) (by decide +kernel) rfl
theorem t123_38 : rn 123 38 ls r M = rn 123 39 ls (.int 1 :: r) M := r_nx (by decide +kernel : decode (mB 123) 38 = .ok (.iconst 1, 1)) rfl rfl
theorem t123_39 : rn 123 39 ls r M = rn 123 40 ls (.int 0 :: r) M := r_nx (by decide +kernel : decode (mB 123) 39 = .ok (.iconst 0, 1)) rfl rfl
theorem t123_40 : rn 123 40 ls (.int y :: .int x :: .ref a :: r) M = if (mK M a).1 = 1 ∧ inR x (mK M a).2 then rn 123 41 ls r (sI M a (va_up (mI M a) x.toNatClampNeg y)) else none := r_cnd (by decide +kernel : decode (mB 123) 40 = .ok (.iastore, 1)) rfl rfl
theorem t123_41 : rn 123 41 (some (.ref a) :: l) r M = rn 123 42 (some (.ref a) :: l) (.ref a :: r) M := r_aload_n (by decide +kernel : decode (mB 123) 41 = .ok (.aload_n 0, 1)) rfl
theorem t123_42 : rn 123 42 ls [.ref a] M = if mK M a = (19, 0) then cbn (cl 100 [.ref a] M) 123 45 ls [] else none := r_callV (kd := 0) (by decide +kernel : decode (mB 123) 42 = .ok (.invokevirtual 38, 3)) (by decide +kernel) ((doV_n np_100).trans rfl)
theorem t123_45 : rn 123 45 ls [] M = some (none, M) := r_vreturn (by decide +kernel : decode (mB 123) 45 = .ok (.return_, 1)) rfl
-- 124 DRModel_dependencies(I)J
theorem t124_0 : rn 124 0 (some (.ref a) :: l) r M = rn 124 1 (some (.ref a) :: l) (.ref a :: r) M := r_aload_n (by decide +kernel : decode (mB 124) 0 = .ok (.aload_n 0, 1)) rfl
theorem t124_1 : rn 124 1 (a0 :: some (.int x) :: l) r M = rn 124 2 (a0 :: some (.int x) :: l) (.int x :: r) M := r_iload_n (by decide +kernel : decode (mB 124) 1 = .ok (.iload_n 1, 1)) rfl
theorem t124_2 : rn 124 2 ls r M = rn 124 4 ls (.int 7 :: r) M := r_nx (by decide +kernel : decode (mB 124) 2 = .ok (.bipush 7, 2)) rfl rfl
theorem t124_4 : rn 124 4 ls [.int x, .int y, .ref a] M = if mK M a = (19, 0) then cbn (cl 111 [.ref a, .int y, .int x] M) 124 7 ls [] else none := r_callV (kd := 0) (by decide +kernel : decode (mB 124) 4 = .ok (.invokevirtual 53, 3)) (by decide +kernel) ((doV_n np_111).trans rfl)
theorem t124_7 : rn 124 7 ls (.int x :: r) M = rn 124 8 ls (.long x.toInt64 :: r) M := r_nx (by decide +kernel : decode (mB 124) 7 = .ok (.i2l, 1)) rfl rfl
theorem t124_8 : rn 124 8 ls r M = rn 124 10 ls (.int 20 :: r) M := r_nx (by decide +kernel : decode (mB 124) 8 = .ok (.bipush 20, 2)) rfl rfl
theorem t124_10 : rn 124 10 ls (.int y :: .long u :: r) M = rn 124 11 ls (.long (u <<< (y.toInt64 &&& 63)) :: r) M := r_nx (by decide +kernel : decode (mB 124) 10 = .ok (.lshl, 1)) rfl rfl
theorem t124_11 : rn 124 11 (some (.ref a) :: l) r M = rn 124 12 (some (.ref a) :: l) (.ref a :: r) M := r_aload_n (by decide +kernel : decode (mB 124) 11 = .ok (.aload_n 0, 1)) rfl
theorem t124_12 : rn 124 12 (a0 :: some (.int x) :: l) r M = rn 124 13 (a0 :: some (.int x) :: l) (.int x :: r) M := r_iload_n (by decide +kernel : decode (mB 124) 12 = .ok (.iload_n 1, 1)) rfl
theorem t124_13 : rn 124 13 ls r M = rn 124 15 ls (.int 6 :: r) M := r_nx (by decide +kernel : decode (mB 124) 13 = .ok (.bipush 6, 2)) rfl rfl
theorem t124_15 : rn 124 15 ls [.int x, .int y, .ref a, .long u] M = if mK M a = (19, 0) then cbn (cl 111 [.ref a, .int y, .int x] M) 124 18 ls [.long u] else none := r_callV (kd := 0) (by decide +kernel : decode (mB 124) 15 = .ok (.invokevirtual 53, 3)) (by decide +kernel) ((doV_n np_111).trans rfl)
theorem t124_18 : rn 124 18 ls (.int x :: r) M = rn 124 19 ls (.long x.toInt64 :: r) M := r_nx (by decide +kernel : decode (mB 124) 18 = .ok (.i2l, 1)) rfl rfl
theorem t124_19 : rn 124 19 ls (.long v :: .long u :: r) M = rn 124 20 ls (.long (u ||| v) :: r) M := r_nx (by decide +kernel : decode (mB 124) 19 = .ok (.lor, 1)) rfl rfl
theorem t124_20 : rn 124 20 ls [.long u] M = some (some (.long u), M) := r_lreturn (by decide +kernel : decode (mB 124) 20 = .ok (.lreturn, 1)) rfl
-- 125 DRModel_bits(J)I
theorem t125_0 : rn 125 0 ls r M = rn 125 1 ls (.int 0 :: r) M := r_nx (by decide +kernel : decode (mB 125) 0 = .ok (.iconst 0, 1)) rfl rfl
theorem t125_1 : rn 125 1 (a0 :: a1 :: a2 :: l) (.int x :: r) M = rn 125 2 (a0 :: a1 :: some (.int x) :: l) r M := r_istore_n (by decide +kernel : decode (mB 125) 1 = .ok (.istore_n 2, 1)) (Nat.le_add_left 3 l.length)
theorem t125_2 : rn 125 2 ls r M = rn 125 3 ls (.int 0 :: r) M := r_nx (by decide +kernel : decode (mB 125) 2 = .ok (.iconst 0, 1)) rfl rfl
theorem t125_3 : rn 125 3 (a0 :: a1 :: a2 :: a3 :: l) (.int x :: r) M = rn 125 4 (a0 :: a1 :: a2 :: some (.int x) :: l) r M := r_istore_n (by decide +kernel : decode (mB 125) 3 = .ok (.istore_n 3, 1)) (Nat.le_add_left 4 l.length)
theorem t125_4 : rn 125 4 (a0 :: a1 :: a2 :: some (.int x) :: l) r M = rn 125 5 (a0 :: a1 :: a2 :: some (.int x) :: l) (.int x :: r) M := r_iload_n (by decide +kernel : decode (mB 125) 4 = .ok (.iload_n 3, 1)) rfl
theorem t125_5 : rn 125 5 ls r M = rn 125 7 ls (.int 40 :: r) M := r_nx (by decide +kernel : decode (mB 125) 5 = .ok (.bipush 40, 2)) rfl rfl
theorem t125_7 : rn 125 7 ls (.int y :: .int x :: r) M = if y ≤ x then rn 125 25 ls r M else rn 125 10 ls r M := r_if (o := 18) (r := r) (c := y ≤ x) (by decide +kernel : decode (mB 125) 7 = .ok (.if_icmp .ge 18, 3)) rfl (by decide) rfl
theorem t125_10 : rn 125 10 (a0 :: a1 :: some (.int x) :: l) r M = rn 125 11 (a0 :: a1 :: some (.int x) :: l) (.int x :: r) M := r_iload_n (by decide +kernel : decode (mB 125) 10 = .ok (.iload_n 2, 1)) rfl
theorem t125_11 : rn 125 11 (some (.long u) :: none :: l) r M = rn 125 12 (some (.long u) :: none :: l) (.long u :: r) M := r_lload_n (by decide +kernel : decode (mB 125) 11 = .ok (.lload_n 0, 1)) rfl rfl
theorem t125_12 : rn 125 12 (a0 :: a1 :: a2 :: some (.int x) :: l) r M = rn 125 13 (a0 :: a1 :: a2 :: some (.int x) :: l) (.int x :: r) M := r_iload_n (by decide +kernel : decode (mB 125) 12 = .ok (.iload_n 3, 1)) rfl
theorem t125_13 : rn 125 13 ls (.int y :: .long u :: r) M = rn 125 14 ls (.long (u >>> (y.toInt64 &&& 63)) :: r) M := r_nx (by decide +kernel : decode (mB 125) 13 = .ok (.lshr, 1)) rfl rfl
theorem t125_14 : rn 125 14 ls r M = rn 125 15 ls (.long 1 :: r) M := r_nx (by decide +kernel : decode (mB 125) 14 = .ok (.lconst 1, 1)) rfl rfl
theorem t125_15 : rn 125 15 ls (.long v :: .long u :: r) M = rn 125 16 ls (.long (u &&& v) :: r) M := r_nx (by decide +kernel : decode (mB 125) 15 = .ok (.land, 1)) rfl rfl
theorem t125_16 : rn 125 16 ls (.long u :: r) M = rn 125 17 ls (.int u.toInt32 :: r) M := r_nx (by decide +kernel : decode (mB 125) 16 = .ok (.l2i, 1)) rfl rfl
theorem t125_17 : rn 125 17 ls (.int y :: .int x :: r) M = rn 125 18 ls (.int (x + y) :: r) M := r_nx (by decide +kernel : decode (mB 125) 17 = .ok (.iadd, 1)) rfl rfl
theorem t125_18 : rn 125 18 (a0 :: a1 :: a2 :: l) (.int x :: r) M = rn 125 19 (a0 :: a1 :: some (.int x) :: l) r M := r_istore_n (by decide +kernel : decode (mB 125) 18 = .ok (.istore_n 2, 1)) (Nat.le_add_left 3 l.length)
theorem t125_19 : rn 125 19 (a0 :: a1 :: a2 :: some (.int x) :: l) r M = rn 125 22 (a0 :: a1 :: a2 :: some (.int (x + 1)) :: l) r M := r_iinc (by decide +kernel : decode (mB 125) 19 = .ok (.iinc 3 1, 3)) rfl
theorem t125_22 : rn 125 22 ls r M = rn 125 4 ls r M := r_goto (o := (-18)) (by decide +kernel : decode (mB 125) 22 = .ok (.goto (-18), 3)) (by decide)
theorem t125_25 : rn 125 25 (a0 :: a1 :: some (.int x) :: l) r M = rn 125 26 (a0 :: a1 :: some (.int x) :: l) (.int x :: r) M := r_iload_n (by decide +kernel : decode (mB 125) 25 = .ok (.iload_n 2, 1)) rfl
theorem t125_26 : rn 125 26 ls [.int x] M = some (some (.int x), M) := r_ireturn (by decide +kernel : decode (mB 125) 26 = .ok (.ireturn, 1)) rfl
-- 126 DRModel_lose(I)I
theorem t126_0 : rn 126 0 (some (.ref a) :: l) r M = rn 126 1 (some (.ref a) :: l) (.ref a :: r) M := r_aload_n (by decide +kernel : decode (mB 126) 0 = .ok (.aload_n 0, 1)) rfl
theorem t126_1 : rn 126 1 (a0 :: some (.int x) :: l) r M = rn 126 2 (a0 :: some (.int x) :: l) (.int x :: r) M := r_iload_n (by decide +kernel : decode (mB 126) 1 = .ok (.iload_n 1, 1)) rfl
theorem t126_2 : rn 126 2 ls r M = rn 126 3 ls (.int 1 :: r) M := r_nx (by decide +kernel : decode (mB 126) 2 = .ok (.iconst 1, 1)) rfl rfl
theorem t126_3 : rn 126 3 ls [.int x, .int y, .ref a] M = if mK M a = (19, 0) then cbn (cl 127 [.ref a, .int y, .int x] M) 126 6 ls [] else none := r_callV (kd := 0) (by decide +kernel : decode (mB 126) 3 = .ok (.invokevirtual 158, 3)) (by decide +kernel) ((doV_n np_127).trans rfl)
theorem t126_6 : rn 126 6 (a0 :: a1 :: a2 :: l) (.int x :: r) M = rn 126 7 (a0 :: a1 :: some (.int x) :: l) r M := r_istore_n (by decide +kernel : decode (mB 126) 6 = .ok (.istore_n 2, 1)) (Nat.le_add_left 3 l.length)
theorem t126_7 : rn 126 7 (a0 :: a1 :: some (.int x) :: l) r M = rn 126 8 (a0 :: a1 :: some (.int x) :: l) (.int x :: r) M := r_iload_n (by decide +kernel : decode (mB 126) 7 = .ok (.iload_n 2, 1)) rfl
theorem t126_8 : rn 126 8 ls (.int x :: r) M = if 0 ≤ x then rn 126 13 ls r M else rn 126 11 ls r M := r_if (o := 5) (r := r) (c := 0 ≤ x) (by decide +kernel : decode (mB 126) 8 = .ok (.ifCond .ge 5, 3)) rfl (by decide) rfl
theorem t126_11 : rn 126 11 (a0 :: a1 :: some (.int x) :: l) r M = rn 126 12 (a0 :: a1 :: some (.int x) :: l) (.int x :: r) M := r_iload_n (by decide +kernel : decode (mB 126) 11 = .ok (.iload_n 2, 1)) rfl
theorem t126_12 : rn 126 12 ls [.int x] M = some (some (.int x), M) := r_ireturn (by decide +kernel : decode (mB 126) 12 = .ok (.ireturn, 1)) rfl
theorem t126_13 : rn 126 13 (some (.ref a) :: l) r M = rn 126 14 (some (.ref a) :: l) (.ref a :: r) M := r_aload_n (by decide +kernel : decode (mB 126) 13 = .ok (.aload_n 0, 1)) rfl
theorem t126_14 : rn 126 14 ls [.ref a] M = if mK M a = (19, 0) then cbn (cl 106 [.ref a] M) 126 17 ls [] else none := r_callV (kd := 0) (by decide +kernel : decode (mB 126) 14 = .ok (.invokevirtual 133, 3)) (by decide +kernel) ((doV_n np_106).trans rfl)
theorem t126_17 : rn 126 17 (some (.ref a) :: l) r M = rn 126 18 (some (.ref a) :: l) (.ref a :: r) M := r_aload_n (by decide +kernel : decode (mB 126) 17 = .ok (.aload_n 0, 1)) rfl
theorem t126_18 : rn 126 18 (a0 :: some (.int x) :: l) r M = rn 126 19 (a0 :: some (.int x) :: l) (.int x :: r) M := r_iload_n (by decide +kernel : decode (mB 126) 18 = .ok (.iload_n 1, 1)) rfl
theorem t126_19 : rn 126 19 ls r M = rn 126 20 ls (.int 1 :: r) M := r_nx (by decide +kernel : decode (mB 126) 19 = .ok (.iconst 1, 1)) rfl rfl
theorem t126_20 : rn 126 20 ls [.int x, .int y, .ref a] M = if mK M a = (19, 0) then cbn (cl 128 [.ref a, .int y, .int x] M) 126 23 ls [] else none := r_callV (kd := 0) (by decide +kernel : decode (mB 126) 20 = .ok (.invokevirtual 161, 3)) (by decide +kernel) ((doV_n np_128).trans rfl)
theorem t126_23 : rn 126 23 ls [.int x] M = some (some (.int x), M) := r_ireturn (by decide +kernel : decode (mB 126) 23 = .ok (.ireturn, 1)) rfl
-- 127 DRModel_whyNotBecome(II)I
theorem t127_0 : rn 127 0 (some (.ref a) :: l) r M = rn 127 1 (some (.ref a) :: l) (.ref a :: r) M := r_aload_n (by decide +kernel : decode (mB 127) 0 = .ok (.aload_n 0, 1)) rfl
theorem t127_1 : rn 127 1 (a0 :: some (.int x) :: l) r M = rn 127 2 (a0 :: some (.int x) :: l) (.int x :: r) M := r_iload_n (by decide +kernel : decode (mB 127) 1 = .ok (.iload_n 1, 1)) rfl
theorem t127_2 : rn 127 2 ls [.int x, .ref a] M = if mK M a = (19, 0) then cbn (cl 121 [.ref a, .int x] M) 127 5 ls [] else none := r_callV (kd := 0) (by decide +kernel : decode (mB 127) 2 = .ok (.invokevirtual 139, 3)) (by decide +kernel) ((doV_n np_121).trans rfl)
theorem t127_5 : rn 127 5 ls (.int x :: r) M = if ¬ x = 0 then rn 127 12 ls r M else rn 127 8 ls r M := r_if (o := 7) (r := r) (c := ¬ x = 0) (by decide +kernel : decode (mB 127) 5 = .ok (.ifCond .ne 7, 3)) rfl (by decide) rfl
theorem t127_8 : rn 127 8 ls r M = rn 127 9 ls (.int (-1) :: r) M := r_nx (by decide +kernel : decode (mB 127) 8 = .ok (.iconst (-1), 1)) rfl rfl
theorem t127_9 : rn 127 9 ls r M = rn 127 28 ls r M := r_goto (o := 19) (by decide +kernel : decode (mB 127) 9 = .ok (.goto 19, 3)) (by decide)
theorem t127_12 : rn 127 12 (some (.ref a) :: l) r M = rn 127 13 (some (.ref a) :: l) (.ref a :: r) M := r_aload_n (by decide +kernel : decode (mB 127) 12 = .ok (.aload_n 0, 1)) rfl
theorem t127_13 : rn 127 13 (a0 :: some (.int x) :: l) r M = rn 127 14 (a0 :: some (.int x) :: l) (.int x :: r) M := r_iload_n (by decide +kernel : decode (mB 127) 13 = .ok (.iload_n 1, 1)) rfl
theorem t127_14 : rn 127 14 ls r M = rn 127 15 ls (.int 3 :: r) M := r_nx (by decide +kernel : decode (mB 127) 14 = .ok (.iconst 3, 1)) rfl rfl
theorem t127_15 : rn 127 15 ls [.int x, .int y, .ref a] M = if mK M a = (19, 0) then cbn (cl 111 [.ref a, .int y, .int x] M) 127 18 ls [] else none := r_callV (kd := 0) (by decide +kernel : decode (mB 127) 15 = .ok (.invokevirtual 53, 3)) (by decide +kernel) ((doV_n np_111).trans rfl)
theorem t127_18 : rn 127 18 (a0 :: a1 :: some (.int x) :: l) r M = rn 127 19 (a0 :: a1 :: some (.int x) :: l) (.int x :: r) M := r_iload_n (by decide +kernel : decode (mB 127) 18 = .ok (.iload_n 2, 1)) rfl
theorem t127_19 : rn 127 19 ls (.int y :: .int x :: r) M = if ¬ x = y then rn 127 27 ls r M else rn 127 22 ls r M := r_if (o := 8) (r := r) (c := ¬ x = y) (by decide +kernel : decode (mB 127) 19 = .ok (.if_icmp .ne 8, 3)) rfl (by decide) rfl
theorem t127_22 : rn 127 22 ls r M = rn 127 24 ls (.int (-5) :: r) M := r_nx (by decide +kernel : decode (mB 127) 22 = .ok (.bipush (-5), 2)) rfl rfl
theorem t127_24 : rn 127 24 ls r M = rn 127 28 ls r M := r_goto (o := 4) (by decide +kernel : decode (mB 127) 24 = .ok (.goto 4, 3)) (by decide)
theorem t127_27 : rn 127 27 ls r M = rn 127 28 ls (.int 0 :: r) M := r_nx (by decide +kernel : decode (mB 127) 27 = .ok (.iconst 0, 1)) rfl rfl
theorem t127_28 : rn 127 28 ls [.int x] M = some (some (.int x), M) := r_ireturn (by decide +kernel : decode (mB 127) 28 = .ok (.ireturn, 1)) rfl
-- 128 DRModel_becomes(II)I
theorem t128_0 : rn 128 0 (some (.ref a) :: l) r M = rn 128 1 (some (.ref a) :: l) (.ref a :: r) M := r_aload_n (by decide +kernel : decode (mB 128) 0 = .ok (.aload_n 0, 1)) rfl
theorem t128_1 : rn 128 1 (a0 :: some (.int x) :: l) r M = rn 128 2 (a0 :: some (.int x) :: l) (.int x :: r) M := r_iload_n (by decide +kernel : decode (mB 128) 1 = .ok (.iload_n 1, 1)) rfl
theorem t128_2 : rn 128 2 ls r M = rn 128 3 ls (.int 3 :: r) M := r_nx (by decide +kernel : decode (mB 128) 2 = .ok (.iconst 3, 1)) rfl rfl
theorem t128_3 : rn 128 3 (a0 :: a1 :: some (.int x) :: l) r M = rn 128 4 (a0 :: a1 :: some (.int x) :: l) (.int x :: r) M := r_iload_n (by decide +kernel : decode (mB 128) 3 = .ok (.iload_n 2, 1)) rfl
theorem t128_4 : rn 128 4 ls [.int x, .int y, .int z, .ref a] M = if mK M a = (19, 0) then cbn (cl 109 [.ref a, .int z, .int y, .int x] M) 128 7 ls [] else none := r_callV (kd := 0) (by decide +kernel : decode (mB 128) 4 = .ok (.invokevirtual 57, 3)) (by decide +kernel) ((doV_n np_109).trans rfl)
theorem t128_7 : rn 128 7 (some (.ref a) :: l) r M = rn 128 8 (some (.ref a) :: l) (.ref a :: r) M := r_aload_n (by decide +kernel : decode (mB 128) 7 = .ok (.aload_n 0, 1)) rfl
theorem t128_8 : rn 128 8 ls [.ref a] M = if mK M a = (19, 0) then cbn (cl 123 [.ref a] M) 128 11 ls [] else none := r_callV (kd := 0) (by decide +kernel : decode (mB 128) 8 = .ok (.invokevirtual 142, 3)) (by decide +kernel) ((doV_n np_123).trans rfl)
theorem t128_11 : rn 128 11 (some (.ref a) :: l) r M = rn 128 12 (some (.ref a) :: l) (.ref a :: r) M := r_aload_n (by decide +kernel : decode (mB 128) 11 = .ok (.aload_n 0, 1)) rfl
theorem t128_12 : rn 128 12 (some (.ref a) :: l) r M = rn 128 13 (some (.ref a) :: l) (.ref a :: r) M := r_aload_n (by decide +kernel : decode (mB 128) 12 = .ok (.aload_n 0, 1)) rfl
theorem t128_13 : rn 128 13 ls [.ref a, .ref b] M = if mK M a = (19, 0) then cbn (cl 129 [.ref a] M) 128 16 ls [.ref b] else none := r_callV (kd := 0) (by decide +kernel : decode (mB 128) 13 = .ok (.invokevirtual 151, 3)) (by decide +kernel) ((doV_n np_129).trans rfl)
theorem t128_16 : rn 128 16 ls [.long u, .ref a] M = if mK M a = (19, 0) then cbn (cl 130 [.ref a, .long u] M) 128 19 ls [] else none := r_callV (kd := 0) (by decide +kernel : decode (mB 128) 16 = .ok (.invokevirtual 154, 3)) (by decide +kernel) ((doV_n np_130).trans rfl)
theorem t128_19 : rn 128 19 ls [.long u] M = cbn (cl 125 [.long u] M) 128 22 ls [] := r_callS (kd := 2) (by decide +kernel : decode (mB 128) 19 = .ok (.invokestatic 118, 3)) (by decide +kernel) (by decide +kernel) ((doS_n np_125).trans rfl)
theorem t128_22 : rn 128 22 ls [.int x] M = some (some (.int x), M) := r_ireturn (by decide +kernel : decode (mB 128) 22 = .ok (.ireturn, 1)) rfl
-- 129 DRModel_lostOnes()J
theorem t129_0 : rn 129 0 ls r M = rn 129 1 ls (.long 0 :: r) M := r_nx (by decide +kernel : decode (mB 129) 0 = .ok (.lconst 0, 1)) rfl rfl
theorem t129_1 : rn 129 1 (a0 :: a1 :: a2 :: l) (.long u :: r) M = rn 129 2 (a0 :: some (.long u) :: none :: l) r M := r_lstore_n (by decide +kernel : decode (mB 129) 1 = .ok (.lstore_n 1, 1)) (Nat.le_add_left 3 l.length)
theorem t129_2 : rn 129 2 ls r M = rn 129 3 ls (.int 0 :: r) M := r_nx (by decide +kernel : decode (mB 129) 2 = .ok (.iconst 0, 1)) rfl rfl
theorem t129_3 : rn 129 3 (a0 :: a1 :: a2 :: a3 :: l) (.int x :: r) M = rn 129 4 (a0 :: a1 :: a2 :: some (.int x) :: l) r M := r_istore_n (by decide +kernel : decode (mB 129) 3 = .ok (.istore_n 3, 1)) (Nat.le_add_left 4 l.length)
theorem t129_4 : rn 129 4 (a0 :: a1 :: a2 :: some (.int x) :: l) r M = rn 129 5 (a0 :: a1 :: a2 :: some (.int x) :: l) (.int x :: r) M := r_iload_n (by decide +kernel : decode (mB 129) 4 = .ok (.iload_n 3, 1)) rfl
theorem t129_5 : rn 129 5 (some (.ref a) :: l) r M = rn 129 6 (some (.ref a) :: l) (.ref a :: r) M := r_aload_n (by decide +kernel : decode (mB 129) 5 = .ok (.aload_n 0, 1)) rfl
theorem t129_6 : rn 129 6 ls (.ref a :: r) M = if mK M a = (19, 0) then rn 129 9 ls (va_rf (mP M a 0) :: r) M else none := r_getP (ci := 9) (k := 0) (by decide +kernel : decode (mB 129) 6 = .ok (.getfield 7, 3)) (by decide +kernel) rfl
theorem t129_9 : rn 129 9 ls r M = rn 129 10 ls (.int 0 :: r) M := r_nx (by decide +kernel : decode (mB 129) 9 = .ok (.iconst 0, 1)) rfl rfl
theorem t129_10 : rn 129 10 ls (.int x :: .ref a :: r) M = if ((mK M a).1 = 1 ∨ (mK M a).1 = 5) ∧ inR x (mK M a).2 then rn 129 11 ls (.int (mI M a x.toNatClampNeg) :: r) M else none := r_cnd (by decide +kernel : decode (mB 129) 10 = .ok (.iaload, 1)) rfl rfl
theorem t129_11 : rn 129 11 ls (.int y :: .int x :: r) M = if y ≤ x then rn 129 40 ls r M else rn 129 14 ls r M := r_if (o := 29) (r := r) (c := y ≤ x) (by decide +kernel : decode (mB 129) 11 = .ok (.if_icmp .ge 29, 3)) rfl (by decide) rfl
theorem t129_14 : rn 129 14 (a0 :: some (.long u) :: none :: l) r M = rn 129 15 (a0 :: some (.long u) :: none :: l) (.long u :: r) M := r_lload_n (by decide +kernel : decode (mB 129) 14 = .ok (.lload_n 1, 1)) rfl rfl
theorem t129_15 : rn 129 15 (some (.ref a) :: l) r M = rn 129 16 (some (.ref a) :: l) (.ref a :: r) M := r_aload_n (by decide +kernel : decode (mB 129) 15 = .ok (.aload_n 0, 1)) rfl
theorem t129_16 : rn 129 16 (a0 :: a1 :: a2 :: some (.int x) :: l) r M = rn 129 17 (a0 :: a1 :: a2 :: some (.int x) :: l) (.int x :: r) M := r_iload_n (by decide +kernel : decode (mB 129) 16 = .ok (.iload_n 3, 1)) rfl
theorem t129_17 : rn 129 17 ls r M = rn 129 18 ls (.int 3 :: r) M := r_nx (by decide +kernel : decode (mB 129) 17 = .ok (.iconst 3, 1)) rfl rfl
theorem t129_18 : rn 129 18 ls [.int x, .int y, .ref a, .long u] M = if mK M a = (19, 0) then cbn (cl 111 [.ref a, .int y, .int x] M) 129 21 ls [.long u] else none := r_callV (kd := 0) (by decide +kernel : decode (mB 129) 18 = .ok (.invokevirtual 53, 3)) (by decide +kernel) ((doV_n np_111).trans rfl)
theorem t129_21 : rn 129 21 ls r M = rn 129 22 ls (.int 1 :: r) M := r_nx (by decide +kernel : decode (mB 129) 21 = .ok (.iconst 1, 1)) rfl rfl
theorem t129_22 : rn 129 22 ls (.int y :: .int x :: r) M = if ¬ x = y then rn 129 31 ls r M else rn 129 25 ls r M := r_if (o := 9) (r := r) (c := ¬ x = y) (by decide +kernel : decode (mB 129) 22 = .ok (.if_icmp .ne 9, 3)) rfl (by decide) rfl
theorem t129_25 : rn 129 25 ls r M = rn 129 26 ls (.long 1 :: r) M := r_nx (by decide +kernel : decode (mB 129) 25 = .ok (.lconst 1, 1)) rfl rfl
theorem t129_26 : rn 129 26 (a0 :: a1 :: a2 :: some (.int x) :: l) r M = rn 129 27 (a0 :: a1 :: a2 :: some (.int x) :: l) (.int x :: r) M := r_iload_n (by decide +kernel : decode (mB 129) 26 = .ok (.iload_n 3, 1)) rfl
theorem t129_27 : rn 129 27 ls (.int y :: .long u :: r) M = rn 129 28 ls (.long (u <<< (y.toInt64 &&& 63)) :: r) M := r_nx (by decide +kernel : decode (mB 129) 27 = .ok (.lshl, 1)) rfl rfl
theorem t129_28 : rn 129 28 ls r M = rn 129 32 ls r M := r_goto (o := 4) (by decide +kernel : decode (mB 129) 28 = .ok (.goto 4, 3)) (by decide)
theorem t129_31 : rn 129 31 ls r M = rn 129 32 ls (.long 0 :: r) M := r_nx (by decide +kernel : decode (mB 129) 31 = .ok (.lconst 0, 1)) rfl rfl
theorem t129_32 : rn 129 32 ls (.long v :: .long u :: r) M = rn 129 33 ls (.long (u ||| v) :: r) M := r_nx (by decide +kernel : decode (mB 129) 32 = .ok (.lor, 1)) rfl rfl
theorem t129_33 : rn 129 33 (a0 :: a1 :: a2 :: l) (.long u :: r) M = rn 129 34 (a0 :: some (.long u) :: none :: l) r M := r_lstore_n (by decide +kernel : decode (mB 129) 33 = .ok (.lstore_n 1, 1)) (Nat.le_add_left 3 l.length)
theorem t129_34 : rn 129 34 (a0 :: a1 :: a2 :: some (.int x) :: l) r M = rn 129 37 (a0 :: a1 :: a2 :: some (.int (x + 1)) :: l) r M := r_iinc (by decide +kernel : decode (mB 129) 34 = .ok (.iinc 3 1, 3)) rfl
theorem t129_37 : rn 129 37 ls r M = rn 129 4 ls r M := r_goto (o := (-33)) (by decide +kernel : decode (mB 129) 37 = .ok (.goto (-33), 3)) (by decide)
theorem t129_40 : rn 129 40 (a0 :: some (.long u) :: none :: l) r M = rn 129 41 (a0 :: some (.long u) :: none :: l) (.long u :: r) M := r_lload_n (by decide +kernel : decode (mB 129) 40 = .ok (.lload_n 1, 1)) rfl rfl
theorem t129_41 : rn 129 41 ls [.long u] M = some (some (.long u), M) := r_lreturn (by decide +kernel : decode (mB 129) 41 = .ok (.lreturn, 1)) rfl
-- 130 DRModel_orphansBy(J)J
theorem t130_0 : rn 130 0 (some (.ref a) :: l) r M = rn 130 1 (some (.ref a) :: l) (.ref a :: r) M := r_aload_n (by decide +kernel : decode (mB 130) 0 = .ok (.aload_n 0, 1)) rfl
theorem t130_1 : rn 130 1 ls [.ref a] M = if mK M a = (19, 0) then cbn (cl 131 [.ref a] M) 130 4 ls [] else none := r_callV (kd := 0) (by decide +kernel : decode (mB 130) 1 = .ok (.invokevirtual 82, 3)) (by decide +kernel) ((doV_n np_131).trans rfl)
theorem t130_4 : rn 130 4 ls r M = rn 130 5 ls (.long 0 :: r) M := r_nx (by decide +kernel : decode (mB 130) 4 = .ok (.lconst 0, 1)) rfl rfl
theorem t130_5 : rn 130 5 (a0 :: a1 :: a2 :: a3 :: a4 :: l) (.long u :: r) M = rn 130 6 (a0 :: a1 :: a2 :: some (.long u) :: none :: l) r M := r_lstore_n (by decide +kernel : decode (mB 130) 5 = .ok (.lstore_n 3, 1)) (Nat.le_add_left 5 l.length)
theorem t130_6 : rn 130 6 ls r M = rn 130 7 ls (.int 0 :: r) M := r_nx (by decide +kernel : decode (mB 130) 6 = .ok (.iconst 0, 1)) rfl rfl
theorem t130_7 : rn 130 7 (a0 :: a1 :: a2 :: a3 :: a4 :: a5 :: l) (.int x :: r) M = rn 130 9 (a0 :: a1 :: a2 :: a3 :: a4 :: some (.int x) :: l) r M := r_istore (by decide +kernel : decode (mB 130) 7 = .ok (.istore 5, 2)) (Nat.le_add_left 6 l.length)
theorem t130_9 : rn 130 9 (a0 :: a1 :: a2 :: a3 :: a4 :: some (.int x) :: l) r M = rn 130 11 (a0 :: a1 :: a2 :: a3 :: a4 :: some (.int x) :: l) (.int x :: r) M := r_iload (by decide +kernel : decode (mB 130) 9 = .ok (.iload 5, 2)) rfl
theorem t130_11 : rn 130 11 (some (.ref a) :: l) r M = rn 130 12 (some (.ref a) :: l) (.ref a :: r) M := r_aload_n (by decide +kernel : decode (mB 130) 11 = .ok (.aload_n 0, 1)) rfl
theorem t130_12 : rn 130 12 ls (.ref a :: r) M = if mK M a = (19, 0) then rn 130 15 ls (va_rf (mP M a 0) :: r) M else none := r_getP (ci := 9) (k := 0) (by decide +kernel : decode (mB 130) 12 = .ok (.getfield 7, 3)) (by decide +kernel) rfl
theorem t130_15 : rn 130 15 ls r M = rn 130 16 ls (.int 0 :: r) M := r_nx (by decide +kernel : decode (mB 130) 15 = .ok (.iconst 0, 1)) rfl rfl
theorem t130_16 : rn 130 16 ls (.int x :: .ref a :: r) M = if ((mK M a).1 = 1 ∨ (mK M a).1 = 5) ∧ inR x (mK M a).2 then rn 130 17 ls (.int (mI M a x.toNatClampNeg) :: r) M else none := r_cnd (by decide +kernel : decode (mB 130) 16 = .ok (.iaload, 1)) rfl rfl
theorem t130_17 : rn 130 17 ls (.int y :: .int x :: r) M = if y ≤ x then rn 130 62 ls r M else rn 130 20 ls r M := r_if (o := 45) (r := r) (c := y ≤ x) (by decide +kernel : decode (mB 130) 17 = .ok (.if_icmp .ge 45, 3)) rfl (by decide) rfl
theorem t130_20 : rn 130 20 (a0 :: a1 :: a2 :: some (.long u) :: none :: l) r M = rn 130 21 (a0 :: a1 :: a2 :: some (.long u) :: none :: l) (.long u :: r) M := r_lload_n (by decide +kernel : decode (mB 130) 20 = .ok (.lload_n 3, 1)) rfl rfl
theorem t130_21 : rn 130 21 (a0 :: some (.long u) :: none :: l) r M = rn 130 22 (a0 :: some (.long u) :: none :: l) (.long u :: r) M := r_lload_n (by decide +kernel : decode (mB 130) 21 = .ok (.lload_n 1, 1)) rfl rfl
theorem t130_22 : rn 130 22 (a0 :: a1 :: a2 :: a3 :: a4 :: some (.int x) :: l) r M = rn 130 24 (a0 :: a1 :: a2 :: a3 :: a4 :: some (.int x) :: l) (.int x :: r) M := r_iload (by decide +kernel : decode (mB 130) 22 = .ok (.iload 5, 2)) rfl
theorem t130_24 : rn 130 24 ls (.int y :: .long u :: r) M = rn 130 25 ls (.long (u >>> (y.toInt64 &&& 63)) :: r) M := r_nx (by decide +kernel : decode (mB 130) 24 = .ok (.lshr, 1)) rfl rfl
theorem t130_25 : rn 130 25 ls r M = rn 130 26 ls (.long 1 :: r) M := r_nx (by decide +kernel : decode (mB 130) 25 = .ok (.lconst 1, 1)) rfl rfl
theorem t130_26 : rn 130 26 ls (.long v :: .long u :: r) M = rn 130 27 ls (.long (u &&& v) :: r) M := r_nx (by decide +kernel : decode (mB 130) 26 = .ok (.land, 1)) rfl rfl
theorem t130_27 : rn 130 27 ls r M = rn 130 28 ls (.long 0 :: r) M := r_nx (by decide +kernel : decode (mB 130) 27 = .ok (.lconst 0, 1)) rfl rfl
theorem t130_28 : rn 130 28 ls (.long v :: .long u :: r) M = rn 130 29 ls (.int (lg_cmp u v) :: r) M := r_nx (by decide +kernel : decode (mB 130) 28 = .ok (.lcmp, 1)) rfl rfl
theorem t130_29 : rn 130 29 ls (.int x :: r) M = if ¬ x = 0 then rn 130 53 ls r M else rn 130 32 ls r M := r_if (o := 24) (r := r) (c := ¬ x = 0) (by decide +kernel : decode (mB 130) 29 = .ok (.ifCond .ne 24, 3)) rfl (by decide) rfl
theorem t130_32 : rn 130 32 (some (.ref a) :: l) r M = rn 130 33 (some (.ref a) :: l) (.ref a :: r) M := r_aload_n (by decide +kernel : decode (mB 130) 32 = .ok (.aload_n 0, 1)) rfl
theorem t130_33 : rn 130 33 ls (.ref a :: r) M = if mK M a = (19, 0) then rn 130 36 ls (va_rf (mP M a 8) :: r) M else none := r_getP (ci := 9) (k := 8) (by decide +kernel : decode (mB 130) 33 = .ok (.getfield 28, 3)) (by decide +kernel) rfl
theorem t130_36 : rn 130 36 (a0 :: a1 :: a2 :: a3 :: a4 :: some (.int x) :: l) r M = rn 130 38 (a0 :: a1 :: a2 :: a3 :: a4 :: some (.int x) :: l) (.int x :: r) M := r_iload (by decide +kernel : decode (mB 130) 36 = .ok (.iload 5, 2)) rfl
theorem t130_38 : rn 130 38 ls (.int x :: .ref a :: r) M = if (mK M a).1 = 2 ∧ inR x (mK M a).2 then rn 130 39 ls (.long (mJ M a x.toNatClampNeg) :: r) M else none := r_cnd (by decide +kernel : decode (mB 130) 38 = .ok (.laload, 1)) rfl rfl
theorem t130_39 : rn 130 39 (a0 :: some (.long u) :: none :: l) r M = rn 130 40 (a0 :: some (.long u) :: none :: l) (.long u :: r) M := r_lload_n (by decide +kernel : decode (mB 130) 39 = .ok (.lload_n 1, 1)) rfl rfl
theorem t130_40 : rn 130 40 ls (.long v :: .long u :: r) M = rn 130 41 ls (.long (u &&& v) :: r) M := r_nx (by decide +kernel : decode (mB 130) 40 = .ok (.land, 1)) rfl rfl
theorem t130_41 : rn 130 41 ls r M = rn 130 42 ls (.long 0 :: r) M := r_nx (by decide +kernel : decode (mB 130) 41 = .ok (.lconst 0, 1)) rfl rfl
theorem t130_42 : rn 130 42 ls (.long v :: .long u :: r) M = rn 130 43 ls (.int (lg_cmp u v) :: r) M := r_nx (by decide +kernel : decode (mB 130) 42 = .ok (.lcmp, 1)) rfl rfl
theorem t130_43 : rn 130 43 ls (.int x :: r) M = if x = 0 then rn 130 53 ls r M else rn 130 46 ls r M := r_if (o := 10) (r := r) (c := x = 0) (by decide +kernel : decode (mB 130) 43 = .ok (.ifCond .eq 10, 3)) rfl (by decide) rfl
theorem t130_46 : rn 130 46 ls r M = rn 130 47 ls (.long 1 :: r) M := r_nx (by decide +kernel : decode (mB 130) 46 = .ok (.lconst 1, 1)) rfl rfl
theorem t130_47 : rn 130 47 (a0 :: a1 :: a2 :: a3 :: a4 :: some (.int x) :: l) r M = rn 130 49 (a0 :: a1 :: a2 :: a3 :: a4 :: some (.int x) :: l) (.int x :: r) M := r_iload (by decide +kernel : decode (mB 130) 47 = .ok (.iload 5, 2)) rfl
theorem t130_49 : rn 130 49 ls (.int y :: .long u :: r) M = rn 130 50 ls (.long (u <<< (y.toInt64 &&& 63)) :: r) M := r_nx (by decide +kernel : decode (mB 130) 49 = .ok (.lshl, 1)) rfl rfl
theorem t130_50 : rn 130 50 ls r M = rn 130 54 ls r M := r_goto (o := 4) (by decide +kernel : decode (mB 130) 50 = .ok (.goto 4, 3)) (by decide)
theorem t130_53 : rn 130 53 ls r M = rn 130 54 ls (.long 0 :: r) M := r_nx (by decide +kernel : decode (mB 130) 53 = .ok (.lconst 0, 1)) rfl rfl
theorem t130_54 : rn 130 54 ls (.long v :: .long u :: r) M = rn 130 55 ls (.long (u ||| v) :: r) M := r_nx (by decide +kernel : decode (mB 130) 54 = .ok (.lor, 1)) rfl rfl
theorem t130_55 : rn 130 55 (a0 :: a1 :: a2 :: a3 :: a4 :: l) (.long u :: r) M = rn 130 56 (a0 :: a1 :: a2 :: some (.long u) :: none :: l) r M := r_lstore_n (by decide +kernel : decode (mB 130) 55 = .ok (.lstore_n 3, 1)) (Nat.le_add_left 5 l.length)
theorem t130_56 : rn 130 56 (a0 :: a1 :: a2 :: a3 :: a4 :: some (.int x) :: l) r M = rn 130 59 (a0 :: a1 :: a2 :: a3 :: a4 :: some (.int (x + 1)) :: l) r M := r_iinc (by decide +kernel : decode (mB 130) 56 = .ok (.iinc 5 1, 3)) rfl
theorem t130_59 : rn 130 59 ls r M = rn 130 9 ls r M := r_goto (o := (-50)) (by decide +kernel : decode (mB 130) 59 = .ok (.goto (-50), 3)) (by decide)
theorem t130_62 : rn 130 62 (a0 :: a1 :: a2 :: some (.long u) :: none :: l) r M = rn 130 63 (a0 :: a1 :: a2 :: some (.long u) :: none :: l) (.long u :: r) M := r_lload_n (by decide +kernel : decode (mB 130) 62 = .ok (.lload_n 3, 1)) rfl rfl
theorem t130_63 : rn 130 63 ls [.long u] M = some (some (.long u), M) := r_lreturn (by decide +kernel : decode (mB 130) 63 = .ok (.lreturn, 1)) rfl
-- 131 DRModel_findLeans()V
theorem t131_0 : rn 131 0 ls r M = rn 131 1 ls (.int 0 :: r) M := r_nx (by decide +kernel : decode (mB 131) 0 = .ok (.iconst 0, 1)) rfl rfl
theorem t131_1 : rn 131 1 (a0 :: a1 :: l) (.int x :: r) M = rn 131 2 (a0 :: some (.int x) :: l) r M := r_istore_n (by decide +kernel : decode (mB 131) 1 = .ok (.istore_n 1, 1)) (Nat.le_add_left 2 l.length)
theorem t131_2 : rn 131 2 (a0 :: some (.int x) :: l) r M = rn 131 3 (a0 :: some (.int x) :: l) (.int x :: r) M := r_iload_n (by decide +kernel : decode (mB 131) 2 = .ok (.iload_n 1, 1)) rfl
theorem t131_3 : rn 131 3 (some (.ref a) :: l) r M = rn 131 4 (some (.ref a) :: l) (.ref a :: r) M := r_aload_n (by decide +kernel : decode (mB 131) 3 = .ok (.aload_n 0, 1)) rfl
theorem t131_4 : rn 131 4 ls (.ref a :: r) M = if mK M a = (19, 0) then rn 131 7 ls (va_rf (mP M a 0) :: r) M else none := r_getP (ci := 9) (k := 0) (by decide +kernel : decode (mB 131) 4 = .ok (.getfield 7, 3)) (by decide +kernel) rfl
theorem t131_7 : rn 131 7 ls r M = rn 131 8 ls (.int 0 :: r) M := r_nx (by decide +kernel : decode (mB 131) 7 = .ok (.iconst 0, 1)) rfl rfl
theorem t131_8 : rn 131 8 ls (.int x :: .ref a :: r) M = if ((mK M a).1 = 1 ∨ (mK M a).1 = 5) ∧ inR x (mK M a).2 then rn 131 9 ls (.int (mI M a x.toNatClampNeg) :: r) M else none := r_cnd (by decide +kernel : decode (mB 131) 8 = .ok (.iaload, 1)) rfl rfl
theorem t131_9 : rn 131 9 ls (.int y :: .int x :: r) M = if y ≤ x then rn 131 77 ls r M else rn 131 12 ls r M := r_if (o := 68) (r := r) (c := y ≤ x) (by decide +kernel : decode (mB 131) 9 = .ok (.if_icmp .ge 68, 3)) rfl (by decide) rfl
theorem t131_12 : rn 131 12 (some (.ref a) :: l) r M = rn 131 13 (some (.ref a) :: l) (.ref a :: r) M := r_aload_n (by decide +kernel : decode (mB 131) 12 = .ok (.aload_n 0, 1)) rfl
theorem t131_13 : rn 131 13 (a0 :: some (.int x) :: l) r M = rn 131 14 (a0 :: some (.int x) :: l) (.int x :: r) M := r_iload_n (by decide +kernel : decode (mB 131) 13 = .ok (.iload_n 1, 1)) rfl
theorem t131_14 : rn 131 14 ls [.int x, .ref a] M = if mK M a = (19, 0) then cbn (cl 124 [.ref a, .int x] M) 131 17 ls [] else none := r_callV (kd := 0) (by decide +kernel : decode (mB 131) 14 = .ok (.invokevirtual 78, 3)) (by decide +kernel) ((doV_n np_124).trans rfl)
theorem t131_17 : rn 131 17 (a0 :: a1 :: a2 :: a3 :: l) (.long u :: r) M = rn 131 18 (a0 :: a1 :: some (.long u) :: none :: l) r M := r_lstore_n (by decide +kernel : decode (mB 131) 17 = .ok (.lstore_n 2, 1)) (Nat.le_add_left 4 l.length)
theorem t131_18 : rn 131 18 (some (.ref a) :: l) r M = rn 131 19 (some (.ref a) :: l) (.ref a :: r) M := r_aload_n (by decide +kernel : decode (mB 131) 18 = .ok (.aload_n 0, 1)) rfl
theorem t131_19 : rn 131 19 ls (.ref a :: r) M = if mK M a = (19, 0) then rn 131 22 ls (va_rf (mP M a 8) :: r) M else none := r_getP (ci := 9) (k := 8) (by decide +kernel : decode (mB 131) 19 = .ok (.getfield 28, 3)) (by decide +kernel) rfl
theorem t131_22 : rn 131 22 (a0 :: some (.int x) :: l) r M = rn 131 23 (a0 :: some (.int x) :: l) (.int x :: r) M := r_iload_n (by decide +kernel : decode (mB 131) 22 = .ok (.iload_n 1, 1)) rfl
theorem t131_23 : rn 131 23 (a0 :: a1 :: some (.long u) :: none :: l) r M = rn 131 24 (a0 :: a1 :: some (.long u) :: none :: l) (.long u :: r) M := r_lload_n (by decide +kernel : decode (mB 131) 23 = .ok (.lload_n 2, 1)) rfl rfl
theorem t131_24 : rn 131 24 ls (.long u :: .int x :: .ref a :: r) M = if (mK M a).1 = 2 ∧ inR x (mK M a).2 then rn 131 25 ls r (sJ M a (va_up (mJ M a) x.toNatClampNeg u)) else none := r_cnd (by decide +kernel : decode (mB 131) 24 = .ok (.lastore, 1)) rfl rfl
theorem t131_25 : rn 131 25 ls r M = rn 131 26 ls (.int 0 :: r) M := r_nx (by decide +kernel : decode (mB 131) 25 = .ok (.iconst 0, 1)) rfl rfl
theorem t131_26 : rn 131 26 (a0 :: a1 :: a2 :: a3 :: a4 :: l) (.int x :: r) M = rn 131 28 (a0 :: a1 :: a2 :: a3 :: some (.int x) :: l) r M := r_istore (by decide +kernel : decode (mB 131) 26 = .ok (.istore 4, 2)) (Nat.le_add_left 5 l.length)
theorem t131_28 : rn 131 28 (a0 :: a1 :: a2 :: a3 :: some (.int x) :: l) r M = rn 131 30 (a0 :: a1 :: a2 :: a3 :: some (.int x) :: l) (.int x :: r) M := r_iload (by decide +kernel : decode (mB 131) 28 = .ok (.iload 4, 2)) rfl
theorem t131_30 : rn 131 30 (a0 :: some (.int x) :: l) r M = rn 131 31 (a0 :: some (.int x) :: l) (.int x :: r) M := r_iload_n (by decide +kernel : decode (mB 131) 30 = .ok (.iload_n 1, 1)) rfl
theorem t131_31 : rn 131 31 ls (.int y :: .int x :: r) M = if y ≤ x then rn 131 71 ls r M else rn 131 34 ls r M := r_if (o := 40) (r := r) (c := y ≤ x) (by decide +kernel : decode (mB 131) 31 = .ok (.if_icmp .ge 40, 3)) rfl (by decide) rfl
theorem t131_34 : rn 131 34 (some (.ref a) :: l) r M = rn 131 35 (some (.ref a) :: l) (.ref a :: r) M := r_aload_n (by decide +kernel : decode (mB 131) 34 = .ok (.aload_n 0, 1)) rfl
theorem t131_35 : rn 131 35 ls (.ref a :: r) M = if mK M a = (19, 0) then rn 131 38 ls (va_rf (mP M a 8) :: r) M else none := r_getP (ci := 9) (k := 8) (by decide +kernel : decode (mB 131) 35 = .ok (.getfield 28, 3)) (by decide +kernel) rfl
theorem t131_38 : rn 131 38 (a0 :: some (.int x) :: l) r M = rn 131 39 (a0 :: some (.int x) :: l) (.int x :: r) M := r_iload_n (by decide +kernel : decode (mB 131) 38 = .ok (.iload_n 1, 1)) rfl
theorem t131_39 : rn 131 39 ls (.int x :: .ref a :: r) M = rn 131 40 ls (.int x :: .ref a :: .int x :: .ref a :: r) M := r_nx (by decide +kernel : decode (mB 131) 39 = .ok (.dup2, 1)) rfl rfl
theorem t131_40 : rn 131 40 ls (.int x :: .ref a :: r) M = if (mK M a).1 = 2 ∧ inR x (mK M a).2 then rn 131 41 ls (.long (mJ M a x.toNatClampNeg) :: r) M else none := r_cnd (by decide +kernel : decode (mB 131) 40 = .ok (.laload, 1)) rfl rfl
theorem t131_41 : rn 131 41 (a0 :: a1 :: some (.long u) :: none :: l) r M = rn 131 42 (a0 :: a1 :: some (.long u) :: none :: l) (.long u :: r) M := r_lload_n (by decide +kernel : decode (mB 131) 41 = .ok (.lload_n 2, 1)) rfl rfl
theorem t131_42 : rn 131 42 (a0 :: a1 :: a2 :: a3 :: some (.int x) :: l) r M = rn 131 44 (a0 :: a1 :: a2 :: a3 :: some (.int x) :: l) (.int x :: r) M := r_iload (by decide +kernel : decode (mB 131) 42 = .ok (.iload 4, 2)) rfl
theorem t131_44 : rn 131 44 ls (.int y :: .long u :: r) M = rn 131 45 ls (.long (u >>> (y.toInt64 &&& 63)) :: r) M := r_nx (by decide +kernel : decode (mB 131) 44 = .ok (.lshr, 1)) rfl rfl
theorem t131_45 : rn 131 45 ls r M = rn 131 46 ls (.long 1 :: r) M := r_nx (by decide +kernel : decode (mB 131) 45 = .ok (.lconst 1, 1)) rfl rfl
theorem t131_46 : rn 131 46 ls (.long v :: .long u :: r) M = rn 131 47 ls (.long (u &&& v) :: r) M := r_nx (by decide +kernel : decode (mB 131) 46 = .ok (.land, 1)) rfl rfl
theorem t131_47 : rn 131 47 ls r M = rn 131 48 ls (.long 1 :: r) M := r_nx (by decide +kernel : decode (mB 131) 47 = .ok (.lconst 1, 1)) rfl rfl
theorem t131_48 : rn 131 48 ls (.long v :: .long u :: r) M = rn 131 49 ls (.int (lg_cmp u v) :: r) M := r_nx (by decide +kernel : decode (mB 131) 48 = .ok (.lcmp, 1)) rfl rfl
theorem t131_49 : rn 131 49 ls (.int x :: r) M = if ¬ x = 0 then rn 131 62 ls r M else rn 131 52 ls r M := r_if (o := 13) (r := r) (c := ¬ x = 0) (by decide +kernel : decode (mB 131) 49 = .ok (.ifCond .ne 13, 3)) rfl (by decide) rfl
theorem t131_52 : rn 131 52 (some (.ref a) :: l) r M = rn 131 53 (some (.ref a) :: l) (.ref a :: r) M := r_aload_n (by decide +kernel : decode (mB 131) 52 = .ok (.aload_n 0, 1)) rfl
theorem t131_53 : rn 131 53 ls (.ref a :: r) M = if mK M a = (19, 0) then rn 131 56 ls (va_rf (mP M a 8) :: r) M else none := r_getP (ci := 9) (k := 8) (by decide +kernel : decode (mB 131) 53 = .ok (.getfield 28, 3)) (by decide +kernel) rfl
theorem t131_56 : rn 131 56 (a0 :: a1 :: a2 :: a3 :: some (.int x) :: l) r M = rn 131 58 (a0 :: a1 :: a2 :: a3 :: some (.int x) :: l) (.int x :: r) M := r_iload (by decide +kernel : decode (mB 131) 56 = .ok (.iload 4, 2)) rfl
theorem t131_58 : rn 131 58 ls (.int x :: .ref a :: r) M = if (mK M a).1 = 2 ∧ inR x (mK M a).2 then rn 131 59 ls (.long (mJ M a x.toNatClampNeg) :: r) M else none := r_cnd (by decide +kernel : decode (mB 131) 58 = .ok (.laload, 1)) rfl rfl
theorem t131_59 : rn 131 59 ls r M = rn 131 63 ls r M := r_goto (o := 4) (by decide +kernel : decode (mB 131) 59 = .ok (.goto 4, 3)) (by decide)
theorem t131_62 : rn 131 62 ls r M = rn 131 63 ls (.long 0 :: r) M := r_nx (by decide +kernel : decode (mB 131) 62 = .ok (.lconst 0, 1)) rfl rfl
theorem t131_63 : rn 131 63 ls (.long v :: .long u :: r) M = rn 131 64 ls (.long (u ||| v) :: r) M := r_nx (by decide +kernel : decode (mB 131) 63 = .ok (.lor, 1)) rfl rfl
theorem t131_64 : rn 131 64 ls (.long u :: .int x :: .ref a :: r) M = if (mK M a).1 = 2 ∧ inR x (mK M a).2 then rn 131 65 ls r (sJ M a (va_up (mJ M a) x.toNatClampNeg u)) else none := r_cnd (by decide +kernel : decode (mB 131) 64 = .ok (.lastore, 1)) rfl rfl
theorem t131_65 : rn 131 65 (a0 :: a1 :: a2 :: a3 :: some (.int x) :: l) r M = rn 131 68 (a0 :: a1 :: a2 :: a3 :: some (.int (x + 1)) :: l) r M := r_iinc (by decide +kernel : decode (mB 131) 65 = .ok (.iinc 4 1, 3)) rfl
theorem t131_68 : rn 131 68 ls r M = rn 131 28 ls r M := r_goto (o := (-40)) (by decide +kernel : decode (mB 131) 68 = .ok (.goto (-40), 3)) (by decide)
theorem t131_71 : rn 131 71 (a0 :: some (.int x) :: l) r M = rn 131 74 (a0 :: some (.int (x + 1)) :: l) r M := r_iinc (by decide +kernel : decode (mB 131) 71 = .ok (.iinc 1 1, 3)) rfl
theorem t131_74 : rn 131 74 ls r M = rn 131 2 ls r M := r_goto (o := (-72)) (by decide +kernel : decode (mB 131) 74 = .ok (.goto (-72), 3)) (by decide)
theorem t131_77 : rn 131 77 ls [] M = some (none, M) := r_vreturn (by decide +kernel : decode (mB 131) 77 = .ok (.return_, 1)) rfl
-- 132 DRModel_find(I)I
theorem t132_0 : rn 132 0 (some (.ref a) :: l) r M = rn 132 1 (some (.ref a) :: l) (.ref a :: r) M := r_aload_n (by decide +kernel : decode (mB 132) 0 = .ok (.aload_n 0, 1)) rfl
theorem t132_1 : rn 132 1 (a0 :: some (.int x) :: l) r M = rn 132 2 (a0 :: some (.int x) :: l) (.int x :: r) M := r_iload_n (by decide +kernel : decode (mB 132) 1 = .ok (.iload_n 1, 1)) rfl
theorem t132_2 : rn 132 2 ls r M = rn 132 3 ls (.int 0 :: r) M := r_nx (by decide +kernel : decode (mB 132) 2 = .ok (.iconst 0, 1)) rfl rfl
theorem t132_3 : rn 132 3 ls [.int x, .int y, .ref a] M = if mK M a = (19, 0) then cbn (cl 127 [.ref a, .int y, .int x] M) 132 6 ls [] else none := r_callV (kd := 0) (by decide +kernel : decode (mB 132) 3 = .ok (.invokevirtual 158, 3)) (by decide +kernel) ((doV_n np_127).trans rfl)
theorem t132_6 : rn 132 6 (a0 :: a1 :: a2 :: l) (.int x :: r) M = rn 132 7 (a0 :: a1 :: some (.int x) :: l) r M := r_istore_n (by decide +kernel : decode (mB 132) 6 = .ok (.istore_n 2, 1)) (Nat.le_add_left 3 l.length)
theorem t132_7 : rn 132 7 (a0 :: a1 :: some (.int x) :: l) r M = rn 132 8 (a0 :: a1 :: some (.int x) :: l) (.int x :: r) M := r_iload_n (by decide +kernel : decode (mB 132) 7 = .ok (.iload_n 2, 1)) rfl
theorem t132_8 : rn 132 8 ls (.int x :: r) M = if 0 ≤ x then rn 132 13 ls r M else rn 132 11 ls r M := r_if (o := 5) (r := r) (c := 0 ≤ x) (by decide +kernel : decode (mB 132) 8 = .ok (.ifCond .ge 5, 3)) rfl (by decide) rfl
theorem t132_11 : rn 132 11 (a0 :: a1 :: some (.int x) :: l) r M = rn 132 12 (a0 :: a1 :: some (.int x) :: l) (.int x :: r) M := r_iload_n (by decide +kernel : decode (mB 132) 11 = .ok (.iload_n 2, 1)) rfl
theorem t132_12 : rn 132 12 ls [.int x] M = some (some (.int x), M) := r_ireturn (by decide +kernel : decode (mB 132) 12 = .ok (.ireturn, 1)) rfl
theorem t132_13 : rn 132 13 (some (.ref a) :: l) r M = rn 132 14 (some (.ref a) :: l) (.ref a :: r) M := r_aload_n (by decide +kernel : decode (mB 132) 13 = .ok (.aload_n 0, 1)) rfl
theorem t132_14 : rn 132 14 ls [.ref a] M = if mK M a = (19, 0) then cbn (cl 106 [.ref a] M) 132 17 ls [] else none := r_callV (kd := 0) (by decide +kernel : decode (mB 132) 14 = .ok (.invokevirtual 133, 3)) (by decide +kernel) ((doV_n np_106).trans rfl)
theorem t132_17 : rn 132 17 (some (.ref a) :: l) r M = rn 132 18 (some (.ref a) :: l) (.ref a :: r) M := r_aload_n (by decide +kernel : decode (mB 132) 17 = .ok (.aload_n 0, 1)) rfl
theorem t132_18 : rn 132 18 (a0 :: some (.int x) :: l) r M = rn 132 19 (a0 :: some (.int x) :: l) (.int x :: r) M := r_iload_n (by decide +kernel : decode (mB 132) 18 = .ok (.iload_n 1, 1)) rfl
theorem t132_19 : rn 132 19 ls r M = rn 132 20 ls (.int 0 :: r) M := r_nx (by decide +kernel : decode (mB 132) 19 = .ok (.iconst 0, 1)) rfl rfl
theorem t132_20 : rn 132 20 ls [.int x, .int y, .ref a] M = if mK M a = (19, 0) then cbn (cl 128 [.ref a, .int y, .int x] M) 132 23 ls [] else none := r_callV (kd := 0) (by decide +kernel : decode (mB 132) 20 = .ok (.invokevirtual 161, 3)) (by decide +kernel) ((doV_n np_128).trans rfl)
theorem t132_23 : rn 132 23 ls [.int x] M = some (some (.int x), M) := r_ireturn (by decide +kernel : decode (mB 132) 23 = .ok (.ireturn, 1)) rfl
-- 133 DRModel_beginAnew()I
theorem t133_0 : rn 133 0 (some (.ref a) :: l) r M = rn 133 1 (some (.ref a) :: l) (.ref a :: r) M := r_aload_n (by decide +kernel : decode (mB 133) 0 = .ok (.aload_n 0, 1)) rfl
theorem t133_1 : rn 133 1 ls [.ref a] M = if mK M a = (19, 0) then cbn (cl 106 [.ref a] M) 133 4 ls [] else none := r_callV (kd := 0) (by decide +kernel : decode (mB 133) 1 = .ok (.invokevirtual 133, 3)) (by decide +kernel) ((doV_n np_106).trans rfl)
theorem t133_4 : rn 133 4 (some (.ref a) :: l) r M = rn 133 5 (some (.ref a) :: l) (.ref a :: r) M := r_aload_n (by decide +kernel : decode (mB 133) 4 = .ok (.aload_n 0, 1)) rfl
theorem t133_5 : rn 133 5 ls [.ref a] M = if mK M a = (19, 0) then cbn (cl 134 [.ref a] M) 133 8 ls [] else none := r_callV (kd := 0) (by decide +kernel : decode (mB 133) 5 = .ok (.invokevirtual 106, 3)) (by decide +kernel) ((doV_n np_134).trans rfl)
theorem t133_8 : rn 133 8 ls [.long u] M = cbn (cl 125 [.long u] M) 133 11 ls [] := r_callS (kd := 2) (by decide +kernel : decode (mB 133) 8 = .ok (.invokestatic 118, 3)) (by decide +kernel) (by decide +kernel) ((doS_n np_125).trans rfl)
theorem t133_11 : rn 133 11 (a0 :: a1 :: l) (.int x :: r) M = rn 133 12 (a0 :: some (.int x) :: l) r M := r_istore_n (by decide +kernel : decode (mB 133) 11 = .ok (.istore_n 1, 1)) (Nat.le_add_left 2 l.length)
theorem t133_12 : rn 133 12 (some (.ref a) :: l) r M = rn 133 13 (some (.ref a) :: l) (.ref a :: r) M := r_aload_n (by decide +kernel : decode (mB 133) 12 = .ok (.aload_n 0, 1)) rfl
theorem t133_13 : rn 133 13 ls [.ref a] M = if mK M a = (19, 0) then cbn (cl 123 [.ref a] M) 133 16 ls [] else none := r_callV (kd := 0) (by decide +kernel : decode (mB 133) 13 = .ok (.invokevirtual 142, 3)) (by decide +kernel) ((doV_n np_123).trans rfl)
theorem t133_16 : rn 133 16 (a0 :: some (.int x) :: l) r M = rn 133 17 (a0 :: some (.int x) :: l) (.int x :: r) M := r_iload_n (by decide +kernel : decode (mB 133) 16 = .ok (.iload_n 1, 1)) rfl
theorem t133_17 : rn 133 17 ls [.int x] M = some (some (.int x), M) := r_ireturn (by decide +kernel : decode (mB 133) 17 = .ok (.ireturn, 1)) rfl
-- 134 DRModel_replayedOnes()J
theorem t134_0 : rn 134 0 ls r M = rn 134 1 ls (.long 0 :: r) M := r_nx (by decide +kernel : decode (mB 134) 0 = .ok (.lconst 0, 1)) rfl rfl
theorem t134_1 : rn 134 1 (a0 :: a1 :: a2 :: l) (.long u :: r) M = rn 134 2 (a0 :: some (.long u) :: none :: l) r M := r_lstore_n (by decide +kernel : decode (mB 134) 1 = .ok (.lstore_n 1, 1)) (Nat.le_add_left 3 l.length)
theorem t134_2 : rn 134 2 ls r M = rn 134 3 ls (.int 0 :: r) M := r_nx (by decide +kernel : decode (mB 134) 2 = .ok (.iconst 0, 1)) rfl rfl
theorem t134_3 : rn 134 3 (a0 :: a1 :: a2 :: a3 :: l) (.int x :: r) M = rn 134 4 (a0 :: a1 :: a2 :: some (.int x) :: l) r M := r_istore_n (by decide +kernel : decode (mB 134) 3 = .ok (.istore_n 3, 1)) (Nat.le_add_left 4 l.length)
theorem t134_4 : rn 134 4 (a0 :: a1 :: a2 :: some (.int x) :: l) r M = rn 134 5 (a0 :: a1 :: a2 :: some (.int x) :: l) (.int x :: r) M := r_iload_n (by decide +kernel : decode (mB 134) 4 = .ok (.iload_n 3, 1)) rfl
theorem t134_5 : rn 134 5 (some (.ref a) :: l) r M = rn 134 6 (some (.ref a) :: l) (.ref a :: r) M := r_aload_n (by decide +kernel : decode (mB 134) 5 = .ok (.aload_n 0, 1)) rfl
theorem t134_6 : rn 134 6 ls (.ref a :: r) M = if mK M a = (19, 0) then rn 134 9 ls (va_rf (mP M a 0) :: r) M else none := r_getP (ci := 9) (k := 0) (by decide +kernel : decode (mB 134) 6 = .ok (.getfield 7, 3)) (by decide +kernel) rfl
theorem t134_9 : rn 134 9 ls r M = rn 134 10 ls (.int 0 :: r) M := r_nx (by decide +kernel : decode (mB 134) 9 = .ok (.iconst 0, 1)) rfl rfl
theorem t134_10 : rn 134 10 ls (.int x :: .ref a :: r) M = if ((mK M a).1 = 1 ∨ (mK M a).1 = 5) ∧ inR x (mK M a).2 then rn 134 11 ls (.int (mI M a x.toNatClampNeg) :: r) M else none := r_cnd (by decide +kernel : decode (mB 134) 10 = .ok (.iaload, 1)) rfl rfl
theorem t134_11 : rn 134 11 ls (.int y :: .int x :: r) M = if y ≤ x then rn 134 41 ls r M else rn 134 14 ls r M := r_if (o := 30) (r := r) (c := y ≤ x) (by decide +kernel : decode (mB 134) 11 = .ok (.if_icmp .ge 30, 3)) rfl (by decide) rfl
theorem t134_14 : rn 134 14 (a0 :: some (.long u) :: none :: l) r M = rn 134 15 (a0 :: some (.long u) :: none :: l) (.long u :: r) M := r_lload_n (by decide +kernel : decode (mB 134) 14 = .ok (.lload_n 1, 1)) rfl rfl
theorem t134_15 : rn 134 15 (some (.ref a) :: l) r M = rn 134 16 (some (.ref a) :: l) (.ref a :: r) M := r_aload_n (by decide +kernel : decode (mB 134) 15 = .ok (.aload_n 0, 1)) rfl
theorem t134_16 : rn 134 16 (a0 :: a1 :: a2 :: some (.int x) :: l) r M = rn 134 17 (a0 :: a1 :: a2 :: some (.int x) :: l) (.int x :: r) M := r_iload_n (by decide +kernel : decode (mB 134) 16 = .ok (.iload_n 3, 1)) rfl
theorem t134_17 : rn 134 17 ls r M = rn 134 18 ls (.int 4 :: r) M := r_nx (by decide +kernel : decode (mB 134) 17 = .ok (.iconst 4, 1)) rfl rfl
theorem t134_18 : rn 134 18 ls [.int x, .int y, .ref a, .long u] M = if mK M a = (19, 0) then cbn (cl 111 [.ref a, .int y, .int x] M) 134 21 ls [.long u] else none := r_callV (kd := 0) (by decide +kernel : decode (mB 134) 18 = .ok (.invokevirtual 53, 3)) (by decide +kernel) ((doV_n np_111).trans rfl)
theorem t134_21 : rn 134 21 ls r M = rn 134 23 ls (.int (-6) :: r) M := r_nx (by decide +kernel : decode (mB 134) 21 = .ok (.bipush (-6), 2)) rfl rfl
theorem t134_23 : rn 134 23 ls (.int y :: .int x :: r) M = if ¬ x = y then rn 134 30 ls r M else rn 134 26 ls r M := r_if (o := 7) (r := r) (c := ¬ x = y) (by decide +kernel : decode (mB 134) 23 = .ok (.if_icmp .ne 7, 3)) rfl (by decide) rfl
theorem t134_26 : rn 134 26 ls r M = rn 134 27 ls (.long 0 :: r) M := r_nx (by decide +kernel : decode (mB 134) 26 = .ok (.lconst 0, 1)) rfl rfl
theorem t134_27 : rn 134 27 ls r M = rn 134 33 ls r M := r_goto (o := 6) (by decide +kernel : decode (mB 134) 27 = .ok (.goto 6, 3)) (by decide)
theorem t134_30 : rn 134 30 ls r M = rn 134 31 ls (.long 1 :: r) M := r_nx (by decide +kernel : decode (mB 134) 30 = .ok (.lconst 1, 1)) rfl rfl
theorem t134_31 : rn 134 31 (a0 :: a1 :: a2 :: some (.int x) :: l) r M = rn 134 32 (a0 :: a1 :: a2 :: some (.int x) :: l) (.int x :: r) M := r_iload_n (by decide +kernel : decode (mB 134) 31 = .ok (.iload_n 3, 1)) rfl
theorem t134_32 : rn 134 32 ls (.int y :: .long u :: r) M = rn 134 33 ls (.long (u <<< (y.toInt64 &&& 63)) :: r) M := r_nx (by decide +kernel : decode (mB 134) 32 = .ok (.lshl, 1)) rfl rfl
theorem t134_33 : rn 134 33 ls (.long v :: .long u :: r) M = rn 134 34 ls (.long (u ||| v) :: r) M := r_nx (by decide +kernel : decode (mB 134) 33 = .ok (.lor, 1)) rfl rfl
theorem t134_34 : rn 134 34 (a0 :: a1 :: a2 :: l) (.long u :: r) M = rn 134 35 (a0 :: some (.long u) :: none :: l) r M := r_lstore_n (by decide +kernel : decode (mB 134) 34 = .ok (.lstore_n 1, 1)) (Nat.le_add_left 3 l.length)
theorem t134_35 : rn 134 35 (a0 :: a1 :: a2 :: some (.int x) :: l) r M = rn 134 38 (a0 :: a1 :: a2 :: some (.int (x + 1)) :: l) r M := r_iinc (by decide +kernel : decode (mB 134) 35 = .ok (.iinc 3 1, 3)) rfl
theorem t134_38 : rn 134 38 ls r M = rn 134 4 ls r M := r_goto (o := (-34)) (by decide +kernel : decode (mB 134) 38 = .ok (.goto (-34), 3)) (by decide)
theorem t134_41 : rn 134 41 (a0 :: some (.long u) :: none :: l) r M = rn 134 42 (a0 :: some (.long u) :: none :: l) (.long u :: r) M := r_lload_n (by decide +kernel : decode (mB 134) 41 = .ok (.lload_n 1, 1)) rfl rfl
theorem t134_42 : rn 134 42 ls [.long u] M = some (some (.long u), M) := r_lreturn (by decide +kernel : decode (mB 134) 42 = .ok (.lreturn, 1)) rfl
-- 135 DRModel_round()I
theorem t135_0 : rn 135 0 (some (.ref a) :: l) r M = rn 135 1 (some (.ref a) :: l) (.ref a :: r) M := r_aload_n (by decide +kernel : decode (mB 135) 0 = .ok (.aload_n 0, 1)) rfl
theorem t135_1 : rn 135 1 ls [.ref a] M = if mK M a = (19, 0) then cbn (cl 106 [.ref a] M) 135 4 ls [] else none := r_callV (kd := 0) (by decide +kernel : decode (mB 135) 1 = .ok (.invokevirtual 133, 3)) (by decide +kernel) ((doV_n np_106).trans rfl)
theorem t135_4 : rn 135 4 (some (.ref a) :: l) r M = rn 135 5 (some (.ref a) :: l) (.ref a :: r) M := r_aload_n (by decide +kernel : decode (mB 135) 4 = .ok (.aload_n 0, 1)) rfl
theorem t135_5 : rn 135 5 ls [.ref a] M = if mK M a = (19, 0) then cbn (cl 136 [.ref a] M) 135 8 ls [] else none := r_callV (kd := 0) (by decide +kernel : decode (mB 135) 5 = .ok (.invokevirtual 122, 3)) (by decide +kernel) ((doV_n np_136).trans rfl)
theorem t135_8 : rn 135 8 ls [.int x] M = some (some (.int x), M) := r_ireturn (by decide +kernel : decode (mB 135) 8 = .ok (.ireturn, 1)) rfl
-- 136 DRModel_makesRound()I
theorem t136_0 : rn 136 0 (some (.ref a) :: l) r M = rn 136 1 (some (.ref a) :: l) (.ref a :: r) M := r_aload_n (by decide +kernel : decode (mB 136) 0 = .ok (.aload_n 0, 1)) rfl
theorem t136_1 : rn 136 1 ls [.ref a] M = if mK M a = (19, 0) then cbn (cl 137 [.ref a] M) 136 4 ls [] else none := r_callV (kd := 0) (by decide +kernel : decode (mB 136) 1 = .ok (.invokevirtual 112, 3)) (by decide +kernel) ((doV_n np_137).trans rfl)
theorem t136_4 : rn 136 4 (a0 :: a1 :: a2 :: l) (.long u :: r) M = rn 136 5 (a0 :: some (.long u) :: none :: l) r M := r_lstore_n (by decide +kernel : decode (mB 136) 4 = .ok (.lstore_n 1, 1)) (Nat.le_add_left 3 l.length)
theorem t136_5 : rn 136 5 ls r M = rn 136 6 ls (.int 0 :: r) M := r_nx (by decide +kernel : decode (mB 136) 5 = .ok (.iconst 0, 1)) rfl rfl
theorem t136_6 : rn 136 6 (a0 :: a1 :: a2 :: a3 :: l) (.int x :: r) M = rn 136 7 (a0 :: a1 :: a2 :: some (.int x) :: l) r M := r_istore_n (by decide +kernel : decode (mB 136) 6 = .ok (.istore_n 3, 1)) (Nat.le_add_left 4 l.length)
theorem t136_7 : rn 136 7 (a0 :: a1 :: a2 :: some (.int x) :: l) r M = rn 136 8 (a0 :: a1 :: a2 :: some (.int x) :: l) (.int x :: r) M := r_iload_n (by decide +kernel : decode (mB 136) 7 = .ok (.iload_n 3, 1)) rfl
theorem t136_8 : rn 136 8 (some (.ref a) :: l) r M = rn 136 9 (some (.ref a) :: l) (.ref a :: r) M := r_aload_n (by decide +kernel : decode (mB 136) 8 = .ok (.aload_n 0, 1)) rfl
theorem t136_9 : rn 136 9 ls (.ref a :: r) M = if mK M a = (19, 0) then rn 136 12 ls (va_rf (mP M a 0) :: r) M else none := r_getP (ci := 9) (k := 0) (by decide +kernel : decode (mB 136) 9 = .ok (.getfield 7, 3)) (by decide +kernel) rfl
theorem t136_12 : rn 136 12 ls r M = rn 136 13 ls (.int 0 :: r) M := r_nx (by decide +kernel : decode (mB 136) 12 = .ok (.iconst 0, 1)) rfl rfl
theorem t136_13 : rn 136 13 ls (.int x :: .ref a :: r) M = if ((mK M a).1 = 1 ∨ (mK M a).1 = 5) ∧ inR x (mK M a).2 then rn 136 14 ls (.int (mI M a x.toNatClampNeg) :: r) M else none := r_cnd (by decide +kernel : decode (mB 136) 13 = .ok (.iaload, 1)) rfl rfl
theorem t136_14 : rn 136 14 ls (.int y :: .int x :: r) M = if y ≤ x then rn 136 56 ls r M else rn 136 17 ls r M := r_if (o := 42) (r := r) (c := y ≤ x) (by decide +kernel : decode (mB 136) 14 = .ok (.if_icmp .ge 42, 3)) rfl (by decide) rfl
theorem t136_17 : rn 136 17 (a0 :: some (.long u) :: none :: l) r M = rn 136 18 (a0 :: some (.long u) :: none :: l) (.long u :: r) M := r_lload_n (by decide +kernel : decode (mB 136) 17 = .ok (.lload_n 1, 1)) rfl rfl
theorem t136_18 : rn 136 18 (a0 :: a1 :: a2 :: some (.int x) :: l) r M = rn 136 19 (a0 :: a1 :: a2 :: some (.int x) :: l) (.int x :: r) M := r_iload_n (by decide +kernel : decode (mB 136) 18 = .ok (.iload_n 3, 1)) rfl
theorem t136_19 : rn 136 19 ls (.int y :: .long u :: r) M = rn 136 20 ls (.long (u >>> (y.toInt64 &&& 63)) :: r) M := r_nx (by decide +kernel : decode (mB 136) 19 = .ok (.lshr, 1)) rfl rfl
theorem t136_20 : rn 136 20 ls r M = rn 136 21 ls (.long 1 :: r) M := r_nx (by decide +kernel : decode (mB 136) 20 = .ok (.lconst 1, 1)) rfl rfl
theorem t136_21 : rn 136 21 ls (.long v :: .long u :: r) M = rn 136 22 ls (.long (u &&& v) :: r) M := r_nx (by decide +kernel : decode (mB 136) 21 = .ok (.land, 1)) rfl rfl
theorem t136_22 : rn 136 22 ls r M = rn 136 23 ls (.long 1 :: r) M := r_nx (by decide +kernel : decode (mB 136) 22 = .ok (.lconst 1, 1)) rfl rfl
theorem t136_23 : rn 136 23 ls (.long v :: .long u :: r) M = rn 136 24 ls (.int (lg_cmp u v) :: r) M := r_nx (by decide +kernel : decode (mB 136) 23 = .ok (.lcmp, 1)) rfl rfl
theorem t136_24 : rn 136 24 ls (.int x :: r) M = if ¬ x = 0 then rn 136 50 ls r M else rn 136 27 ls r M := r_if (o := 26) (r := r) (c := ¬ x = 0) (by decide +kernel : decode (mB 136) 24 = .ok (.ifCond .ne 26, 3)) rfl (by decide) rfl
theorem t136_27 : rn 136 27 (some (.ref a) :: l) r M = rn 136 28 (some (.ref a) :: l) (.ref a :: r) M := r_aload_n (by decide +kernel : decode (mB 136) 27 = .ok (.aload_n 0, 1)) rfl
theorem t136_28 : rn 136 28 (a0 :: a1 :: a2 :: some (.int x) :: l) r M = rn 136 29 (a0 :: a1 :: a2 :: some (.int x) :: l) (.int x :: r) M := r_iload_n (by decide +kernel : decode (mB 136) 28 = .ok (.iload_n 3, 1)) rfl
theorem t136_29 : rn 136 29 ls r M = rn 136 30 ls (.int 5 :: r) M := r_nx (by decide +kernel : decode (mB 136) 29 = .ok (.iconst 5, 1)) rfl rfl
theorem t136_30 : rn 136 30 (some (.ref a) :: l) r M = rn 136 31 (some (.ref a) :: l) (.ref a :: r) M := r_aload_n (by decide +kernel : decode (mB 136) 30 = .ok (.aload_n 0, 1)) rfl
theorem t136_31 : rn 136 31 (a0 :: a1 :: a2 :: some (.int x) :: l) r M = rn 136 32 (a0 :: a1 :: a2 :: some (.int x) :: l) (.int x :: r) M := r_iload_n (by decide +kernel : decode (mB 136) 31 = .ok (.iload_n 3, 1)) rfl
theorem t136_32 : rn 136 32 ls [.int x, .ref a, .int y, .int z, .ref b] M = if mK M a = (19, 0) then cbn (cl 138 [.ref a, .int x] M) 136 35 ls [.int y, .int z, .ref b] else none := r_callV (kd := 0) (by decide +kernel : decode (mB 136) 32 = .ok (.invokevirtual 115, 3)) (by decide +kernel) ((doV_n np_138).trans rfl)
theorem t136_35 : rn 136 35 ls [.int x, .int y, .int z, .ref a] M = if mK M a = (19, 0) then cbn (cl 109 [.ref a, .int z, .int y, .int x] M) 136 38 ls [] else none := r_callV (kd := 0) (by decide +kernel : decode (mB 136) 35 = .ok (.invokevirtual 57, 3)) (by decide +kernel) ((doV_n np_109).trans rfl)
theorem t136_38 : rn 136 38 (some (.ref a) :: l) r M = rn 136 39 (some (.ref a) :: l) (.ref a :: r) M := r_aload_n (by decide +kernel : decode (mB 136) 38 = .ok (.aload_n 0, 1)) rfl
theorem t136_39 : rn 136 39 (a0 :: a1 :: a2 :: some (.int x) :: l) r M = rn 136 40 (a0 :: a1 :: a2 :: some (.int x) :: l) (.int x :: r) M := r_iload_n (by decide +kernel : decode (mB 136) 39 = .ok (.iload_n 3, 1)) rfl
theorem t136_40 : rn 136 40 ls r M = rn 136 41 ls (.int 4 :: r) M := r_nx (by decide +kernel : decode (mB 136) 40 = .ok (.iconst 4, 1)) rfl rfl
theorem t136_41 : rn 136 41 (some (.ref a) :: l) r M = rn 136 42 (some (.ref a) :: l) (.ref a :: r) M := r_aload_n (by decide +kernel : decode (mB 136) 41 = .ok (.aload_n 0, 1)) rfl
theorem t136_42 : rn 136 42 ls (.ref a :: r) M = if mK M a = (19, 0) then rn 136 45 ls (va_rf (mP M a 0) :: r) M else none := r_getP (ci := 9) (k := 0) (by decide +kernel : decode (mB 136) 42 = .ok (.getfield 7, 3)) (by decide +kernel) rfl
theorem t136_45 : rn 136 45 ls r M = rn 136 46 ls (.int 1 :: r) M := r_nx (by decide +kernel : decode (mB 136) 45 = .ok (.iconst 1, 1)) rfl rfl
theorem t136_46 : rn 136 46 ls (.int x :: .ref a :: r) M = if ((mK M a).1 = 1 ∨ (mK M a).1 = 5) ∧ inR x (mK M a).2 then rn 136 47 ls (.int (mI M a x.toNatClampNeg) :: r) M else none := r_cnd (by decide +kernel : decode (mB 136) 46 = .ok (.iaload, 1)) rfl rfl
theorem t136_47 : rn 136 47 ls [.int x, .int y, .int z, .ref a] M = if mK M a = (19, 0) then cbn (cl 109 [.ref a, .int z, .int y, .int x] M) 136 50 ls [] else none := r_callV (kd := 0) (by decide +kernel : decode (mB 136) 47 = .ok (.invokevirtual 57, 3)) (by decide +kernel) ((doV_n np_109).trans rfl)
theorem t136_50 : rn 136 50 (a0 :: a1 :: a2 :: some (.int x) :: l) r M = rn 136 53 (a0 :: a1 :: a2 :: some (.int (x + 1)) :: l) r M := r_iinc (by decide +kernel : decode (mB 136) 50 = .ok (.iinc 3 1, 3)) rfl
theorem t136_53 : rn 136 53 ls r M = rn 136 7 ls r M := r_goto (o := (-46)) (by decide +kernel : decode (mB 136) 53 = .ok (.goto (-46), 3)) (by decide)
theorem t136_56 : rn 136 56 (some (.ref a) :: l) r M = rn 136 57 (some (.ref a) :: l) (.ref a :: r) M := r_aload_n (by decide +kernel : decode (mB 136) 56 = .ok (.aload_n 0, 1)) rfl
theorem t136_57 : rn 136 57 ls (.ref a :: r) M = if mK M a = (19, 0) then rn 136 60 ls (va_rf (mP M a 0) :: r) M else none := r_getP (ci := 9) (k := 0) (by decide +kernel : decode (mB 136) 57 = .ok (.getfield 7, 3)) (by decide +kernel) rfl
theorem t136_60 : rn 136 60 ls r M = rn 136 61 ls (.int 1 :: r) M := r_nx (by decide +kernel : decode (mB 136) 60 = .ok (.iconst 1, 1)) rfl rfl
theorem t136_61 : rn 136 61 ls (.int x :: .ref a :: r) M = rn 136 62 ls (.int x :: .ref a :: .int x :: .ref a :: r) M := r_nx (by decide +kernel : decode (mB 136) 61 = .ok (.dup2, 1)) rfl rfl
theorem t136_62 : rn 136 62 ls (.int x :: .ref a :: r) M = if ((mK M a).1 = 1 ∨ (mK M a).1 = 5) ∧ inR x (mK M a).2 then rn 136 63 ls (.int (mI M a x.toNatClampNeg) :: r) M else none := r_cnd (by decide +kernel : decode (mB 136) 62 = .ok (.iaload, 1)) rfl rfl
theorem t136_63 : rn 136 63 ls r M = rn 136 64 ls (.int 1 :: r) M := r_nx (by decide +kernel : decode (mB 136) 63 = .ok (.iconst 1, 1)) rfl rfl
theorem t136_64 : rn 136 64 ls (.int y :: .int x :: r) M = rn 136 65 ls (.int (x + y) :: r) M := r_nx (by decide +kernel : decode (mB 136) 64 = .ok (.iadd, 1)) rfl rfl
theorem t136_65 : rn 136 65 ls (.int y :: .int x :: .ref a :: r) M = if (mK M a).1 = 1 ∧ inR x (mK M a).2 then rn 136 66 ls r (sI M a (va_up (mI M a) x.toNatClampNeg y)) else none := r_cnd (by decide +kernel : decode (mB 136) 65 = .ok (.iastore, 1)) rfl rfl
theorem t136_66 : rn 136 66 (a0 :: some (.long u) :: none :: l) r M = rn 136 67 (a0 :: some (.long u) :: none :: l) (.long u :: r) M := r_lload_n (by decide +kernel : decode (mB 136) 66 = .ok (.lload_n 1, 1)) rfl rfl
theorem t136_67 : rn 136 67 ls [.long u] M = cbn (cl 125 [.long u] M) 136 70 ls [] := r_callS (kd := 2) (by decide +kernel : decode (mB 136) 67 = .ok (.invokestatic 118, 3)) (by decide +kernel) (by decide +kernel) ((doS_n np_125).trans rfl)
theorem t136_70 : rn 136 70 ls [.int x] M = some (some (.int x), M) := r_ireturn (by decide +kernel : decode (mB 136) 70 = .ok (.ireturn, 1)) rfl
-- 137 DRModel_readyOnes()J
theorem t137_0 : rn 137 0 (some (.ref a) :: l) r M = rn 137 1 (some (.ref a) :: l) (.ref a :: r) M := r_aload_n (by decide +kernel : decode (mB 137) 0 = .ok (.aload_n 0, 1)) rfl
theorem t137_1 : rn 137 1 ls [.ref a] M = if mK M a = (19, 0) then cbn (cl 134 [.ref a] M) 137 4 ls [] else none := r_callV (kd := 0) (by decide +kernel : decode (mB 137) 1 = .ok (.invokevirtual 106, 3)) (by decide +kernel) ((doV_n np_134).trans rfl)
theorem t137_4 : rn 137 4 (a0 :: a1 :: a2 :: l) (.long u :: r) M = rn 137 5 (a0 :: some (.long u) :: none :: l) r M := r_lstore_n (by decide +kernel : decode (mB 137) 4 = .ok (.lstore_n 1, 1)) (Nat.le_add_left 3 l.length)
theorem t137_5 : rn 137 5 ls r M = rn 137 6 ls (.long 0 :: r) M := r_nx (by decide +kernel : decode (mB 137) 5 = .ok (.lconst 0, 1)) rfl rfl
theorem t137_6 : rn 137 6 (a0 :: a1 :: a2 :: a3 :: a4 :: l) (.long u :: r) M = rn 137 7 (a0 :: a1 :: a2 :: some (.long u) :: none :: l) r M := r_lstore_n (by decide +kernel : decode (mB 137) 6 = .ok (.lstore_n 3, 1)) (Nat.le_add_left 5 l.length)
theorem t137_7 : rn 137 7 ls r M = rn 137 8 ls (.int 0 :: r) M := r_nx (by decide +kernel : decode (mB 137) 7 = .ok (.iconst 0, 1)) rfl rfl
theorem t137_8 : rn 137 8 (a0 :: a1 :: a2 :: a3 :: a4 :: a5 :: l) (.int x :: r) M = rn 137 10 (a0 :: a1 :: a2 :: a3 :: a4 :: some (.int x) :: l) r M := r_istore (by decide +kernel : decode (mB 137) 8 = .ok (.istore 5, 2)) (Nat.le_add_left 6 l.length)
theorem t137_10 : rn 137 10 (a0 :: a1 :: a2 :: a3 :: a4 :: some (.int x) :: l) r M = rn 137 12 (a0 :: a1 :: a2 :: a3 :: a4 :: some (.int x) :: l) (.int x :: r) M := r_iload (by decide +kernel : decode (mB 137) 10 = .ok (.iload 5, 2)) rfl
theorem t137_12 : rn 137 12 (some (.ref a) :: l) r M = rn 137 13 (some (.ref a) :: l) (.ref a :: r) M := r_aload_n (by decide +kernel : decode (mB 137) 12 = .ok (.aload_n 0, 1)) rfl
theorem t137_13 : rn 137 13 ls (.ref a :: r) M = if mK M a = (19, 0) then rn 137 16 ls (va_rf (mP M a 0) :: r) M else none := r_getP (ci := 9) (k := 0) (by decide +kernel : decode (mB 137) 13 = .ok (.getfield 7, 3)) (by decide +kernel) rfl
theorem t137_16 : rn 137 16 ls r M = rn 137 17 ls (.int 0 :: r) M := r_nx (by decide +kernel : decode (mB 137) 16 = .ok (.iconst 0, 1)) rfl rfl
theorem t137_17 : rn 137 17 ls (.int x :: .ref a :: r) M = if ((mK M a).1 = 1 ∨ (mK M a).1 = 5) ∧ inR x (mK M a).2 then rn 137 18 ls (.int (mI M a x.toNatClampNeg) :: r) M else none := r_cnd (by decide +kernel : decode (mB 137) 17 = .ok (.iaload, 1)) rfl rfl
theorem t137_18 : rn 137 18 ls (.int y :: .int x :: r) M = if y ≤ x then rn 137 89 ls r M else rn 137 21 ls r M := r_if (o := 71) (r := r) (c := y ≤ x) (by decide +kernel : decode (mB 137) 18 = .ok (.if_icmp .ge 71, 3)) rfl (by decide) rfl
theorem t137_21 : rn 137 21 (some (.ref a) :: l) r M = rn 137 22 (some (.ref a) :: l) (.ref a :: r) M := r_aload_n (by decide +kernel : decode (mB 137) 21 = .ok (.aload_n 0, 1)) rfl
theorem t137_22 : rn 137 22 (a0 :: a1 :: a2 :: a3 :: a4 :: some (.int x) :: l) r M = rn 137 24 (a0 :: a1 :: a2 :: a3 :: a4 :: some (.int x) :: l) (.int x :: r) M := r_iload (by decide +kernel : decode (mB 137) 22 = .ok (.iload 5, 2)) rfl
theorem t137_24 : rn 137 24 ls r M = rn 137 25 ls (.int 3 :: r) M := r_nx (by decide +kernel : decode (mB 137) 24 = .ok (.iconst 3, 1)) rfl rfl
theorem t137_25 : rn 137 25 ls [.int x, .int y, .ref a] M = if mK M a = (19, 0) then cbn (cl 111 [.ref a, .int y, .int x] M) 137 28 ls [] else none := r_callV (kd := 0) (by decide +kernel : decode (mB 137) 25 = .ok (.invokevirtual 53, 3)) (by decide +kernel) ((doV_n np_111).trans rfl)
theorem t137_28 : rn 137 28 ls (.int x :: r) M = if ¬ x = 0 then rn 137 64 ls r M else rn 137 31 ls r M := r_if (o := 36) (r := r) (c := ¬ x = 0) (by decide +kernel : decode (mB 137) 28 = .ok (.ifCond .ne 36, 3)) rfl (by decide) rfl
theorem t137_31 : rn 137 31 (some (.ref a) :: l) r M = rn 137 32 (some (.ref a) :: l) (.ref a :: r) M := r_aload_n (by decide +kernel : decode (mB 137) 31 = .ok (.aload_n 0, 1)) rfl
theorem t137_32 : rn 137 32 (a0 :: a1 :: a2 :: a3 :: a4 :: some (.int x) :: l) r M = rn 137 34 (a0 :: a1 :: a2 :: a3 :: a4 :: some (.int x) :: l) (.int x :: r) M := r_iload (by decide +kernel : decode (mB 137) 32 = .ok (.iload 5, 2)) rfl
theorem t137_34 : rn 137 34 ls r M = rn 137 35 ls (.int 4 :: r) M := r_nx (by decide +kernel : decode (mB 137) 34 = .ok (.iconst 4, 1)) rfl rfl
theorem t137_35 : rn 137 35 ls [.int x, .int y, .ref a] M = if mK M a = (19, 0) then cbn (cl 111 [.ref a, .int y, .int x] M) 137 38 ls [] else none := r_callV (kd := 0) (by decide +kernel : decode (mB 137) 35 = .ok (.invokevirtual 53, 3)) (by decide +kernel) ((doV_n np_111).trans rfl)
theorem t137_38 : rn 137 38 ls r M = rn 137 40 ls (.int (-6) :: r) M := r_nx (by decide +kernel : decode (mB 137) 38 = .ok (.bipush (-6), 2)) rfl rfl
theorem t137_40 : rn 137 40 ls (.int y :: .int x :: r) M = if ¬ x = y then rn 137 64 ls r M else rn 137 43 ls r M := r_if (o := 24) (r := r) (c := ¬ x = y) (by decide +kernel : decode (mB 137) 40 = .ok (.if_icmp .ne 24, 3)) rfl (by decide) rfl
theorem t137_43 : rn 137 43 (some (.ref a) :: l) r M = rn 137 44 (some (.ref a) :: l) (.ref a :: r) M := r_aload_n (by decide +kernel : decode (mB 137) 43 = .ok (.aload_n 0, 1)) rfl
theorem t137_44 : rn 137 44 (a0 :: a1 :: a2 :: a3 :: a4 :: some (.int x) :: l) r M = rn 137 46 (a0 :: a1 :: a2 :: a3 :: a4 :: some (.int x) :: l) (.int x :: r) M := r_iload (by decide +kernel : decode (mB 137) 44 = .ok (.iload 5, 2)) rfl
theorem t137_46 : rn 137 46 ls [.int x, .ref a] M = if mK M a = (19, 0) then cbn (cl 124 [.ref a, .int x] M) 137 49 ls [] else none := r_callV (kd := 0) (by decide +kernel : decode (mB 137) 46 = .ok (.invokevirtual 78, 3)) (by decide +kernel) ((doV_n np_124).trans rfl)
theorem t137_49 : rn 137 49 (a0 :: some (.long u) :: none :: l) r M = rn 137 50 (a0 :: some (.long u) :: none :: l) (.long u :: r) M := r_lload_n (by decide +kernel : decode (mB 137) 49 = .ok (.lload_n 1, 1)) rfl rfl
theorem t137_50 : rn 137 50 ls r M = rn 137 53 ls (.long (-1) :: r) M := r_nx (by decide +kernel : decode (mB 137) 50 = .ok (.ldc2_w 110, 3)) rfl rfl
theorem t137_53 : rn 137 53 ls (.long v :: .long u :: r) M = rn 137 54 ls (.long (u ^^^ v) :: r) M := r_nx (by decide +kernel : decode (mB 137) 53 = .ok (.lxor, 1)) rfl rfl
theorem t137_54 : rn 137 54 ls (.long v :: .long u :: r) M = rn 137 55 ls (.long (u &&& v) :: r) M := r_nx (by decide +kernel : decode (mB 137) 54 = .ok (.land, 1)) rfl rfl
theorem t137_55 : rn 137 55 ls r M = rn 137 56 ls (.long 0 :: r) M := r_nx (by decide +kernel : decode (mB 137) 55 = .ok (.lconst 0, 1)) rfl rfl
theorem t137_56 : rn 137 56 ls (.long v :: .long u :: r) M = rn 137 57 ls (.int (lg_cmp u v) :: r) M := r_nx (by decide +kernel : decode (mB 137) 56 = .ok (.lcmp, 1)) rfl rfl
theorem t137_57 : rn 137 57 ls (.int x :: r) M = if ¬ x = 0 then rn 137 64 ls r M else rn 137 60 ls r M := r_if (o := 7) (r := r) (c := ¬ x = 0) (by decide +kernel : decode (mB 137) 57 = .ok (.ifCond .ne 7, 3)) rfl (by decide) rfl
theorem t137_60 : rn 137 60 ls r M = rn 137 61 ls (.int 1 :: r) M := r_nx (by decide +kernel : decode (mB 137) 60 = .ok (.iconst 1, 1)) rfl rfl
theorem t137_61 : rn 137 61 ls r M = rn 137 65 ls r M := r_goto (o := 4) (by decide +kernel : decode (mB 137) 61 = .ok (.goto 4, 3)) (by decide)
theorem t137_64 : rn 137 64 ls r M = rn 137 65 ls (.int 0 :: r) M := r_nx (by decide +kernel : decode (mB 137) 64 = .ok (.iconst 0, 1)) rfl rfl
theorem t137_65 : rn 137 65 (a0 :: a1 :: a2 :: a3 :: a4 :: a5 :: a6 :: l) (.int x :: r) M = rn 137 67 (a0 :: a1 :: a2 :: a3 :: a4 :: a5 :: some (.int x) :: l) r M := r_istore (by decide +kernel : decode (mB 137) 65 = .ok (.istore 6, 2)) (Nat.le_add_left 7 l.length)
theorem t137_67 : rn 137 67 (a0 :: a1 :: a2 :: some (.long u) :: none :: l) r M = rn 137 68 (a0 :: a1 :: a2 :: some (.long u) :: none :: l) (.long u :: r) M := r_lload_n (by decide +kernel : decode (mB 137) 67 = .ok (.lload_n 3, 1)) rfl rfl
theorem t137_68 : rn 137 68 (a0 :: a1 :: a2 :: a3 :: a4 :: a5 :: some (.int x) :: l) r M = rn 137 70 (a0 :: a1 :: a2 :: a3 :: a4 :: a5 :: some (.int x) :: l) (.int x :: r) M := r_iload (by decide +kernel : decode (mB 137) 68 = .ok (.iload 6, 2)) rfl
theorem t137_70 : rn 137 70 ls (.int x :: r) M = if x = 0 then rn 137 80 ls r M else rn 137 73 ls r M := r_if (o := 10) (r := r) (c := x = 0) (by decide +kernel : decode (mB 137) 70 = .ok (.ifCond .eq 10, 3)) rfl (by decide) rfl
theorem t137_73 : rn 137 73 ls r M = rn 137 74 ls (.long 1 :: r) M := r_nx (by decide +kernel : decode (mB 137) 73 = .ok (.lconst 1, 1)) rfl rfl
theorem t137_74 : rn 137 74 (a0 :: a1 :: a2 :: a3 :: a4 :: some (.int x) :: l) r M = rn 137 76 (a0 :: a1 :: a2 :: a3 :: a4 :: some (.int x) :: l) (.int x :: r) M := r_iload (by decide +kernel : decode (mB 137) 74 = .ok (.iload 5, 2)) rfl
theorem t137_76 : rn 137 76 ls (.int y :: .long u :: r) M = rn 137 77 ls (.long (u <<< (y.toInt64 &&& 63)) :: r) M := r_nx (by decide +kernel : decode (mB 137) 76 = .ok (.lshl, 1)) rfl rfl
theorem t137_77 : rn 137 77 ls r M = rn 137 81 ls r M := r_goto (o := 4) (by decide +kernel : decode (mB 137) 77 = .ok (.goto 4, 3)) (by decide)
theorem t137_80 : rn 137 80 ls r M = rn 137 81 ls (.long 0 :: r) M := r_nx (by decide +kernel : decode (mB 137) 80 = .ok (.lconst 0, 1)) rfl rfl
theorem t137_81 : rn 137 81 ls (.long v :: .long u :: r) M = rn 137 82 ls (.long (u ||| v) :: r) M := r_nx (by decide +kernel : decode (mB 137) 81 = .ok (.lor, 1)) rfl rfl
theorem t137_82 : rn 137 82 (a0 :: a1 :: a2 :: a3 :: a4 :: l) (.long u :: r) M = rn 137 83 (a0 :: a1 :: a2 :: some (.long u) :: none :: l) r M := r_lstore_n (by decide +kernel : decode (mB 137) 82 = .ok (.lstore_n 3, 1)) (Nat.le_add_left 5 l.length)
theorem t137_83 : rn 137 83 (a0 :: a1 :: a2 :: a3 :: a4 :: some (.int x) :: l) r M = rn 137 86 (a0 :: a1 :: a2 :: a3 :: a4 :: some (.int (x + 1)) :: l) r M := r_iinc (by decide +kernel : decode (mB 137) 83 = .ok (.iinc 5 1, 3)) rfl
theorem t137_86 : rn 137 86 ls r M = rn 137 10 ls r M := r_goto (o := (-76)) (by decide +kernel : decode (mB 137) 86 = .ok (.goto (-76), 3)) (by decide)
theorem t137_89 : rn 137 89 (a0 :: a1 :: a2 :: some (.long u) :: none :: l) r M = rn 137 90 (a0 :: a1 :: a2 :: some (.long u) :: none :: l) (.long u :: r) M := r_lload_n (by decide +kernel : decode (mB 137) 89 = .ok (.lload_n 3, 1)) rfl rfl
theorem t137_90 : rn 137 90 ls [.long u] M = some (some (.long u), M) := r_lreturn (by decide +kernel : decode (mB 137) 90 = .ok (.lreturn, 1)) rfl
end S3
