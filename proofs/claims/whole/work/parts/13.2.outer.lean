/-! step rows, by program (wip/whole/gen13.py): outer -/
section S2
variable {a0 a1 a2 a3 a4 a5 a6 a7 a8 a9 : Option Value} {l ls : List (Option Value)} {r : List Value} {M : SM} {x y z w p k : Int32} {u v s : Int64} {a b c d : Nat}

-- 12 DR_make(II)I
theorem t12_0 : rn 12 0 (some (.ref a) :: l) r M = rn 12 1 (some (.ref a) :: l) (.ref a :: r) M := r_aload_n (by decide +kernel : decode (mB 12) 0 = .ok (.aload_n 0, 1)) rfl
theorem t12_1 : rn 12 1 ls (.ref a :: r) M = if mK M a = (10, 0) then rn 12 4 ls (va_rf (mP M a 1) :: r) M else none := r_getP (ci := 0) (k := 1) (by decide +kernel : decode (mB 12) 1 = .ok (.getfield 19, 3)) (by decide +kernel) rfl
theorem t12_4 : rn 12 4 (some (.ref a) :: l) r M = rn 12 5 (some (.ref a) :: l) (.ref a :: r) M := r_aload_n (by decide +kernel : decode (mB 12) 4 = .ok (.aload_n 0, 1)) rfl
theorem t12_5 : rn 12 5 ls (.ref a :: r) M = if mK M a = (10, 0) then rn 12 8 ls (va_rf (mP M a 0) :: r) M else none := r_getP (ci := 0) (k := 0) (by decide +kernel : decode (mB 12) 5 = .ok (.getfield 10, 3)) (by decide +kernel) rfl
theorem t12_8 : rn 12 8 ls [.ref a, .ref b] M = if mK M b = (15, 0) then cbn (cl 13 [.ref b, .ref a] M) 12 11 ls [] else none := r_callV (kd := 0) (by decide +kernel : decode (mB 12) 8 = .ok (.invokevirtual 51, 3)) (by decide +kernel) ((doV_n np_13).trans rfl)
theorem t12_11 : rn 12 11 (some (.ref a) :: l) r M = rn 12 12 (some (.ref a) :: l) (.ref a :: r) M := r_aload_n (by decide +kernel : decode (mB 12) 11 = .ok (.aload_n 0, 1)) rfl
theorem t12_12 : rn 12 12 (some (.ref a) :: l) r M = rn 12 13 (some (.ref a) :: l) (.ref a :: r) M := r_aload_n (by decide +kernel : decode (mB 12) 12 = .ok (.aload_n 0, 1)) rfl
theorem t12_13 : rn 12 13 ls (.ref a :: r) M = if mK M a = (10, 0) then rn 12 16 ls (va_rf (mP M a 0) :: r) M else none := r_getP (ci := 0) (k := 0) (by decide +kernel : decode (mB 12) 13 = .ok (.getfield 10, 3)) (by decide +kernel) rfl
theorem t12_16 : rn 12 16 ls r M = rn 12 17 ls (.int 0 :: r) M := r_nx (by decide +kernel : decode (mB 12) 16 = .ok (.iconst 0, 1)) rfl rfl
theorem t12_17 : rn 12 17 (a0 :: some (.int x) :: l) r M = rn 12 18 (a0 :: some (.int x) :: l) (.int x :: r) M := r_iload_n (by decide +kernel : decode (mB 12) 17 = .ok (.iload_n 1, 1)) rfl
theorem t12_18 : rn 12 18 (a0 :: a1 :: some (.int x) :: l) r M = rn 12 19 (a0 :: a1 :: some (.int x) :: l) (.int x :: r) M := r_iload_n (by decide +kernel : decode (mB 12) 18 = .ok (.iload_n 2, 1)) rfl
theorem t12_19 : rn 12 19 ls [.int x, .int y, .int z, .ref a, .ref b] M = if mK M a = (11, 0) then cbn (cl 18 [.ref a, .int z, .int y, .int x] M) 12 22 ls [.ref b] else none := r_callV (kd := 0) (by decide +kernel : decode (mB 12) 19 = .ok (.invokevirtual 55, 3)) (by decide +kernel) ((doV_n np_18).trans rfl)
theorem t12_22 : rn 12 22 ls [.int x, .ref a] M = if mK M a = (10, 0) then cbn (cl 28 [.ref a, .int x] M) 12 25 ls [] else none := r_callV (kd := 0) (by decide +kernel : decode (mB 12) 22 = .ok (.invokevirtual 59, 3)) (by decide +kernel) ((doV_n np_28).trans rfl)
theorem t12_25 : rn 12 25 ls [.int x] M = some (some (.int x), M) := r_ireturn (by decide +kernel : decode (mB 12) 25 = .ok (.ireturn, 1)) rfl
-- 19 DR_isFile(I)Z
theorem t19_0 : rn 19 0 (some (.int x) :: l) r M = rn 19 1 (some (.int x) :: l) (.int x :: r) M := r_iload_n (by decide +kernel : decode (mB 19) 0 = .ok (.iload_n 0, 1)) rfl
theorem t19_1 : rn 19 1 ls (.int x :: r) M = if x < 0 then rn 19 14 ls r M else rn 19 4 ls r M := r_if (o := 13) (r := r) (c := x < 0) (by decide +kernel : decode (mB 19) 1 = .ok (.ifCond .lt 13, 3)) rfl (by decide) rfl
theorem t19_4 : rn 19 4 (some (.int x) :: l) r M = rn 19 5 (some (.int x) :: l) (.int x :: r) M := r_iload_n (by decide +kernel : decode (mB 19) 4 = .ok (.iload_n 0, 1)) rfl
theorem t19_5 : rn 19 5 ls r M = rn 19 7 ls (.int 16 :: r) M := r_nx (by decide +kernel : decode (mB 19) 5 = .ok (.bipush 16, 2)) rfl rfl
theorem t19_7 : rn 19 7 ls (.int y :: .int x :: r) M = if y ≤ x then rn 19 14 ls r M else rn 19 10 ls r M := r_if (o := 7) (r := r) (c := y ≤ x) (by decide +kernel : decode (mB 19) 7 = .ok (.if_icmp .ge 7, 3)) rfl (by decide) rfl
theorem t19_10 : rn 19 10 ls r M = rn 19 11 ls (.int 1 :: r) M := r_nx (by decide +kernel : decode (mB 19) 10 = .ok (.iconst 1, 1)) rfl rfl
theorem t19_11 : rn 19 11 ls r M = rn 19 15 ls r M := r_goto (o := 4) (by decide +kernel : decode (mB 19) 11 = .ok (.goto 4, 3)) (by decide)
theorem t19_14 : rn 19 14 ls r M = rn 19 15 ls (.int 0 :: r) M := r_nx (by decide +kernel : decode (mB 19) 14 = .ok (.iconst 0, 1)) rfl rfl
theorem t19_15 : rn 19 15 ls [.int x] M = if x = 0 ∨ x = 1 then some (some (.int x), M) else none := r_zreturn (by decide +kernel : decode (mB 19) 15 = .ok (.ireturn, 1)) rfl
-- 20 DR_hasDirectory(I)Z
theorem t20_0 : rn 20 0 (some (.int x) :: l) r M = rn 20 1 (some (.int x) :: l) (.int x :: r) M := r_iload_n (by decide +kernel : decode (mB 20) 0 = .ok (.iload_n 0, 1)) rfl
theorem t20_1 : rn 20 1 ls (.int x :: r) M = if x = 0 then rn 20 9 ls r M else rn 20 4 ls r M := r_if (o := 8) (r := r) (c := x = 0) (by decide +kernel : decode (mB 20) 1 = .ok (.ifCond .eq 8, 3)) rfl (by decide) rfl
theorem t20_4 : rn 20 4 (some (.int x) :: l) r M = rn 20 5 (some (.int x) :: l) (.int x :: r) M := r_iload_n (by decide +kernel : decode (mB 20) 4 = .ok (.iload_n 0, 1)) rfl
theorem t20_5 : rn 20 5 ls r M = rn 20 6 ls (.int 2 :: r) M := r_nx (by decide +kernel : decode (mB 20) 5 = .ok (.iconst 2, 1)) rfl rfl
theorem t20_6 : rn 20 6 ls (.int y :: .int x :: r) M = if ¬ x = y then rn 20 13 ls r M else rn 20 9 ls r M := r_if (o := 7) (r := r) (c := ¬ x = y) (by decide +kernel : decode (mB 20) 6 = .ok (.if_icmp .ne 7, 3)) rfl (by decide) rfl
theorem t20_9 : rn 20 9 ls r M = rn 20 10 ls (.int 1 :: r) M := r_nx (by decide +kernel : decode (mB 20) 9 = .ok (.iconst 1, 1)) rfl rfl
theorem t20_10 : rn 20 10 ls r M = rn 20 14 ls r M := r_goto (o := 4) (by decide +kernel : decode (mB 20) 10 = .ok (.goto 4, 3)) (by decide)
theorem t20_13 : rn 20 13 ls r M = rn 20 14 ls (.int 0 :: r) M := r_nx (by decide +kernel : decode (mB 20) 13 = .ok (.iconst 0, 1)) rfl rfl
theorem t20_14 : rn 20 14 ls [.int x] M = if x = 0 ∨ x = 1 then some (some (.int x), M) else none := r_zreturn (by decide +kernel : decode (mB 20) 14 = .ok (.ireturn, 1)) rfl
-- 24 DR_bit(I)J
theorem t24_0 : rn 24 0 ls r M = rn 24 1 ls (.long 1 :: r) M := r_nx (by decide +kernel : decode (mB 24) 0 = .ok (.lconst 1, 1)) rfl rfl
theorem t24_1 : rn 24 1 (some (.int x) :: l) r M = rn 24 2 (some (.int x) :: l) (.int x :: r) M := r_iload_n (by decide +kernel : decode (mB 24) 1 = .ok (.iload_n 0, 1)) rfl
theorem t24_2 : rn 24 2 ls (.int y :: .long u :: r) M = rn 24 3 ls (.long (u <<< (y.toInt64 &&& 63)) :: r) M := r_nx (by decide +kernel : decode (mB 24) 2 = .ok (.lshl, 1)) rfl rfl
theorem t24_3 : rn 24 3 ls [.long u] M = some (some (.long u), M) := r_lreturn (by decide +kernel : decode (mB 24) 3 = .ok (.lreturn, 1)) rfl
-- 27 DR_holds(JI)Z
theorem t27_0 : rn 27 0 (some (.long u) :: none :: l) r M = rn 27 1 (some (.long u) :: none :: l) (.long u :: r) M := r_lload_n (by decide +kernel : decode (mB 27) 0 = .ok (.lload_n 0, 1)) rfl rfl
theorem t27_1 : rn 27 1 (a0 :: a1 :: some (.int x) :: l) r M = rn 27 2 (a0 :: a1 :: some (.int x) :: l) (.int x :: r) M := r_iload_n (by decide +kernel : decode (mB 27) 1 = .ok (.iload_n 2, 1)) rfl
theorem t27_2 : rn 27 2 ls [.int x, .long u] M = cbn (cl 24 [.int x] M) 27 5 ls [.long u] := r_callS (kd := 2) (by decide +kernel : decode (mB 27) 2 = .ok (.invokestatic 204, 3)) (by decide +kernel) (by decide +kernel) ((doS_n np_24).trans rfl)
theorem t27_5 : rn 27 5 ls (.long v :: .long u :: r) M = rn 27 6 ls (.long (u &&& v) :: r) M := r_nx (by decide +kernel : decode (mB 27) 5 = .ok (.land, 1)) rfl rfl
theorem t27_6 : rn 27 6 ls r M = rn 27 7 ls (.long 0 :: r) M := r_nx (by decide +kernel : decode (mB 27) 6 = .ok (.lconst 0, 1)) rfl rfl
theorem t27_7 : rn 27 7 ls (.long v :: .long u :: r) M = rn 27 8 ls (.int (lg_cmp u v) :: r) M := r_nx (by decide +kernel : decode (mB 27) 7 = .ok (.lcmp, 1)) rfl rfl
theorem t27_8 : rn 27 8 ls (.int x :: r) M = if x = 0 then rn 27 15 ls r M else rn 27 11 ls r M := r_if (o := 7) (r := r) (c := x = 0) (by decide +kernel : decode (mB 27) 8 = .ok (.ifCond .eq 7, 3)) rfl (by decide) rfl
theorem t27_11 : rn 27 11 ls r M = rn 27 12 ls (.int 1 :: r) M := r_nx (by decide +kernel : decode (mB 27) 11 = .ok (.iconst 1, 1)) rfl rfl
theorem t27_12 : rn 27 12 ls r M = rn 27 16 ls r M := r_goto (o := 4) (by decide +kernel : decode (mB 27) 12 = .ok (.goto 4, 3)) (by decide)
theorem t27_15 : rn 27 15 ls r M = rn 27 16 ls (.int 0 :: r) M := r_nx (by decide +kernel : decode (mB 27) 15 = .ok (.iconst 0, 1)) rfl rfl
theorem t27_16 : rn 27 16 ls [.int x] M = if x = 0 ∨ x = 1 then some (some (.int x), M) else none := r_zreturn (by decide +kernel : decode (mB 27) 16 = .ok (.ireturn, 1)) rfl
-- 28 DR_recorded(I)I
theorem t28_0 : rn 28 0 (a0 :: some (.int x) :: l) r M = rn 28 1 (a0 :: some (.int x) :: l) (.int x :: r) M := r_iload_n (by decide +kernel : decode (mB 28) 0 = .ok (.iload_n 1, 1)) rfl
theorem t28_1 : rn 28 1 ls (.int x :: r) M = if x < 0 then rn 28 11 ls r M else rn 28 4 ls r M := r_if (o := 10) (r := r) (c := x < 0) (by decide +kernel : decode (mB 28) 1 = .ok (.ifCond .lt 10, 3)) rfl (by decide) rfl
theorem t28_4 : rn 28 4 (some (.ref a) :: l) r M = rn 28 5 (some (.ref a) :: l) (.ref a :: r) M := r_aload_n (by decide +kernel : decode (mB 28) 4 = .ok (.aload_n 0, 1)) rfl
theorem t28_5 : rn 28 5 ls (.ref a :: r) M = if mK M a = (10, 0) then rn 28 8 ls (va_rf (mP M a 1) :: r) M else none := r_getP (ci := 0) (k := 1) (by decide +kernel : decode (mB 28) 5 = .ok (.getfield 19, 3)) (by decide +kernel) rfl
theorem t28_8 : rn 28 8 ls [.ref a] M = if mK M a = (15, 0) then cbn (cl 29 [.ref a] M) 28 11 ls [] else none := r_callV (kd := 0) (by decide +kernel : decode (mB 28) 8 = .ok (.invokevirtual 258, 3)) (by decide +kernel) ((doV_n np_29).trans rfl)
theorem t28_11 : rn 28 11 (a0 :: some (.int x) :: l) r M = rn 28 12 (a0 :: some (.int x) :: l) (.int x :: r) M := r_iload_n (by decide +kernel : decode (mB 28) 11 = .ok (.iload_n 1, 1)) rfl
theorem t28_12 : rn 28 12 ls [.int x] M = some (some (.int x), M) := r_ireturn (by decide +kernel : decode (mB 28) 12 = .ok (.ireturn, 1)) rfl
-- 31 DR_write(II)I
theorem t31_0 : rn 31 0 (some (.ref a) :: l) r M = rn 31 1 (some (.ref a) :: l) (.ref a :: r) M := r_aload_n (by decide +kernel : decode (mB 31) 0 = .ok (.aload_n 0, 1)) rfl
theorem t31_1 : rn 31 1 ls (.ref a :: r) M = if mK M a = (10, 0) then rn 31 4 ls (va_rf (mP M a 1) :: r) M else none := r_getP (ci := 0) (k := 1) (by decide +kernel : decode (mB 31) 1 = .ok (.getfield 19, 3)) (by decide +kernel) rfl
theorem t31_4 : rn 31 4 (some (.ref a) :: l) r M = rn 31 5 (some (.ref a) :: l) (.ref a :: r) M := r_aload_n (by decide +kernel : decode (mB 31) 4 = .ok (.aload_n 0, 1)) rfl
theorem t31_5 : rn 31 5 ls (.ref a :: r) M = if mK M a = (10, 0) then rn 31 8 ls (va_rf (mP M a 0) :: r) M else none := r_getP (ci := 0) (k := 0) (by decide +kernel : decode (mB 31) 5 = .ok (.getfield 10, 3)) (by decide +kernel) rfl
theorem t31_8 : rn 31 8 ls [.ref a, .ref b] M = if mK M b = (15, 0) then cbn (cl 13 [.ref b, .ref a] M) 31 11 ls [] else none := r_callV (kd := 0) (by decide +kernel : decode (mB 31) 8 = .ok (.invokevirtual 51, 3)) (by decide +kernel) ((doV_n np_13).trans rfl)
theorem t31_11 : rn 31 11 (some (.ref a) :: l) r M = rn 31 12 (some (.ref a) :: l) (.ref a :: r) M := r_aload_n (by decide +kernel : decode (mB 31) 11 = .ok (.aload_n 0, 1)) rfl
theorem t31_12 : rn 31 12 (some (.ref a) :: l) r M = rn 31 13 (some (.ref a) :: l) (.ref a :: r) M := r_aload_n (by decide +kernel : decode (mB 31) 12 = .ok (.aload_n 0, 1)) rfl
theorem t31_13 : rn 31 13 ls (.ref a :: r) M = if mK M a = (10, 0) then rn 31 16 ls (va_rf (mP M a 0) :: r) M else none := r_getP (ci := 0) (k := 0) (by decide +kernel : decode (mB 31) 13 = .ok (.getfield 10, 3)) (by decide +kernel) rfl
theorem t31_16 : rn 31 16 ls r M = rn 31 17 ls (.int 1 :: r) M := r_nx (by decide +kernel : decode (mB 31) 16 = .ok (.iconst 1, 1)) rfl rfl
theorem t31_17 : rn 31 17 (a0 :: some (.int x) :: l) r M = rn 31 18 (a0 :: some (.int x) :: l) (.int x :: r) M := r_iload_n (by decide +kernel : decode (mB 31) 17 = .ok (.iload_n 1, 1)) rfl
theorem t31_18 : rn 31 18 (a0 :: a1 :: some (.int x) :: l) r M = rn 31 19 (a0 :: a1 :: some (.int x) :: l) (.int x :: r) M := r_iload_n (by decide +kernel : decode (mB 31) 18 = .ok (.iload_n 2, 1)) rfl
theorem t31_19 : rn 31 19 ls [.int x, .int y, .int z, .ref a, .ref b] M = if mK M a = (11, 0) then cbn (cl 18 [.ref a, .int z, .int y, .int x] M) 31 22 ls [.ref b] else none := r_callV (kd := 0) (by decide +kernel : decode (mB 31) 19 = .ok (.invokevirtual 55, 3)) (by decide +kernel) ((doV_n np_18).trans rfl)
theorem t31_22 : rn 31 22 ls [.int x, .ref a] M = if mK M a = (10, 0) then cbn (cl 28 [.ref a, .int x] M) 31 25 ls [] else none := r_callV (kd := 0) (by decide +kernel : decode (mB 31) 22 = .ok (.invokevirtual 59, 3)) (by decide +kernel) ((doV_n np_28).trans rfl)
theorem t31_25 : rn 31 25 ls [.int x] M = some (some (.int x), M) := r_ireturn (by decide +kernel : decode (mB 31) 25 = .ok (.ireturn, 1)) rfl
-- 32 DR_move(II)I
theorem t32_0 : rn 32 0 (some (.ref a) :: l) r M = rn 32 1 (some (.ref a) :: l) (.ref a :: r) M := r_aload_n (by decide +kernel : decode (mB 32) 0 = .ok (.aload_n 0, 1)) rfl
theorem t32_1 : rn 32 1 ls (.ref a :: r) M = if mK M a = (10, 0) then rn 32 4 ls (va_rf (mP M a 1) :: r) M else none := r_getP (ci := 0) (k := 1) (by decide +kernel : decode (mB 32) 1 = .ok (.getfield 19, 3)) (by decide +kernel) rfl
theorem t32_4 : rn 32 4 (some (.ref a) :: l) r M = rn 32 5 (some (.ref a) :: l) (.ref a :: r) M := r_aload_n (by decide +kernel : decode (mB 32) 4 = .ok (.aload_n 0, 1)) rfl
theorem t32_5 : rn 32 5 ls (.ref a :: r) M = if mK M a = (10, 0) then rn 32 8 ls (va_rf (mP M a 0) :: r) M else none := r_getP (ci := 0) (k := 0) (by decide +kernel : decode (mB 32) 5 = .ok (.getfield 10, 3)) (by decide +kernel) rfl
theorem t32_8 : rn 32 8 ls [.ref a, .ref b] M = if mK M b = (15, 0) then cbn (cl 13 [.ref b, .ref a] M) 32 11 ls [] else none := r_callV (kd := 0) (by decide +kernel : decode (mB 32) 8 = .ok (.invokevirtual 51, 3)) (by decide +kernel) ((doV_n np_13).trans rfl)
theorem t32_11 : rn 32 11 (some (.ref a) :: l) r M = rn 32 12 (some (.ref a) :: l) (.ref a :: r) M := r_aload_n (by decide +kernel : decode (mB 32) 11 = .ok (.aload_n 0, 1)) rfl
theorem t32_12 : rn 32 12 (some (.ref a) :: l) r M = rn 32 13 (some (.ref a) :: l) (.ref a :: r) M := r_aload_n (by decide +kernel : decode (mB 32) 12 = .ok (.aload_n 0, 1)) rfl
theorem t32_13 : rn 32 13 ls (.ref a :: r) M = if mK M a = (10, 0) then rn 32 16 ls (va_rf (mP M a 0) :: r) M else none := r_getP (ci := 0) (k := 0) (by decide +kernel : decode (mB 32) 13 = .ok (.getfield 10, 3)) (by decide +kernel) rfl
theorem t32_16 : rn 32 16 ls r M = rn 32 17 ls (.int 2 :: r) M := r_nx (by decide +kernel : decode (mB 32) 16 = .ok (.iconst 2, 1)) rfl rfl
theorem t32_17 : rn 32 17 (a0 :: some (.int x) :: l) r M = rn 32 18 (a0 :: some (.int x) :: l) (.int x :: r) M := r_iload_n (by decide +kernel : decode (mB 32) 17 = .ok (.iload_n 1, 1)) rfl
theorem t32_18 : rn 32 18 (a0 :: a1 :: some (.int x) :: l) r M = rn 32 19 (a0 :: a1 :: some (.int x) :: l) (.int x :: r) M := r_iload_n (by decide +kernel : decode (mB 32) 18 = .ok (.iload_n 2, 1)) rfl
theorem t32_19 : rn 32 19 ls [.int x, .int y, .int z, .ref a, .ref b] M = if mK M a = (11, 0) then cbn (cl 18 [.ref a, .int z, .int y, .int x] M) 32 22 ls [.ref b] else none := r_callV (kd := 0) (by decide +kernel : decode (mB 32) 19 = .ok (.invokevirtual 55, 3)) (by decide +kernel) ((doV_n np_18).trans rfl)
theorem t32_22 : rn 32 22 ls [.int x, .ref a] M = if mK M a = (10, 0) then cbn (cl 28 [.ref a, .int x] M) 32 25 ls [] else none := r_callV (kd := 0) (by decide +kernel : decode (mB 32) 22 = .ok (.invokevirtual 59, 3)) (by decide +kernel) ((doV_n np_28).trans rfl)
theorem t32_25 : rn 32 25 ls [.int x] M = some (some (.int x), M) := r_ireturn (by decide +kernel : decode (mB 32) 25 = .ok (.ireturn, 1)) rfl
-- 33 DR_drop(I)I
theorem t33_0 : rn 33 0 (some (.ref a) :: l) r M = rn 33 1 (some (.ref a) :: l) (.ref a :: r) M := r_aload_n (by decide +kernel : decode (mB 33) 0 = .ok (.aload_n 0, 1)) rfl
theorem t33_1 : rn 33 1 ls (.ref a :: r) M = if mK M a = (10, 0) then rn 33 4 ls (va_rf (mP M a 1) :: r) M else none := r_getP (ci := 0) (k := 1) (by decide +kernel : decode (mB 33) 1 = .ok (.getfield 19, 3)) (by decide +kernel) rfl
theorem t33_4 : rn 33 4 (some (.ref a) :: l) r M = rn 33 5 (some (.ref a) :: l) (.ref a :: r) M := r_aload_n (by decide +kernel : decode (mB 33) 4 = .ok (.aload_n 0, 1)) rfl
theorem t33_5 : rn 33 5 ls (.ref a :: r) M = if mK M a = (10, 0) then rn 33 8 ls (va_rf (mP M a 0) :: r) M else none := r_getP (ci := 0) (k := 0) (by decide +kernel : decode (mB 33) 5 = .ok (.getfield 10, 3)) (by decide +kernel) rfl
theorem t33_8 : rn 33 8 ls [.ref a, .ref b] M = if mK M b = (15, 0) then cbn (cl 13 [.ref b, .ref a] M) 33 11 ls [] else none := r_callV (kd := 0) (by decide +kernel : decode (mB 33) 8 = .ok (.invokevirtual 51, 3)) (by decide +kernel) ((doV_n np_13).trans rfl)
theorem t33_11 : rn 33 11 (some (.ref a) :: l) r M = rn 33 12 (some (.ref a) :: l) (.ref a :: r) M := r_aload_n (by decide +kernel : decode (mB 33) 11 = .ok (.aload_n 0, 1)) rfl
theorem t33_12 : rn 33 12 (some (.ref a) :: l) r M = rn 33 13 (some (.ref a) :: l) (.ref a :: r) M := r_aload_n (by decide +kernel : decode (mB 33) 12 = .ok (.aload_n 0, 1)) rfl
theorem t33_13 : rn 33 13 ls (.ref a :: r) M = if mK M a = (10, 0) then rn 33 16 ls (va_rf (mP M a 0) :: r) M else none := r_getP (ci := 0) (k := 0) (by decide +kernel : decode (mB 33) 13 = .ok (.getfield 10, 3)) (by decide +kernel) rfl
theorem t33_16 : rn 33 16 ls r M = rn 33 17 ls (.int 3 :: r) M := r_nx (by decide +kernel : decode (mB 33) 16 = .ok (.iconst 3, 1)) rfl rfl
theorem t33_17 : rn 33 17 (a0 :: some (.int x) :: l) r M = rn 33 18 (a0 :: some (.int x) :: l) (.int x :: r) M := r_iload_n (by decide +kernel : decode (mB 33) 17 = .ok (.iload_n 1, 1)) rfl
theorem t33_18 : rn 33 18 ls r M = rn 33 20 ls (.int (-6) :: r) M := r_nx (by decide +kernel : decode (mB 33) 18 = .ok (.bipush (-6), 2)) rfl rfl
theorem t33_20 : rn 33 20 ls [.int x, .int y, .int z, .ref a, .ref b] M = if mK M a = (11, 0) then cbn (cl 18 [.ref a, .int z, .int y, .int x] M) 33 23 ls [.ref b] else none := r_callV (kd := 0) (by decide +kernel : decode (mB 33) 20 = .ok (.invokevirtual 55, 3)) (by decide +kernel) ((doV_n np_18).trans rfl)
theorem t33_23 : rn 33 23 ls [.int x, .ref a] M = if mK M a = (10, 0) then cbn (cl 28 [.ref a, .int x] M) 33 26 ls [] else none := r_callV (kd := 0) (by decide +kernel : decode (mB 33) 23 = .ok (.invokevirtual 59, 3)) (by decide +kernel) ((doV_n np_28).trans rfl)
theorem t33_26 : rn 33 26 ls [.int x] M = some (some (.int x), M) := r_ireturn (by decide +kernel : decode (mB 33) 26 = .ok (.ireturn, 1)) rfl
-- 34 DR_need(II)I
theorem t34_0 : rn 34 0 (some (.ref a) :: l) r M = rn 34 1 (some (.ref a) :: l) (.ref a :: r) M := r_aload_n (by decide +kernel : decode (mB 34) 0 = .ok (.aload_n 0, 1)) rfl
theorem t34_1 : rn 34 1 ls (.ref a :: r) M = if mK M a = (10, 0) then rn 34 4 ls (va_rf (mP M a 1) :: r) M else none := r_getP (ci := 0) (k := 1) (by decide +kernel : decode (mB 34) 1 = .ok (.getfield 19, 3)) (by decide +kernel) rfl
theorem t34_4 : rn 34 4 (some (.ref a) :: l) r M = rn 34 5 (some (.ref a) :: l) (.ref a :: r) M := r_aload_n (by decide +kernel : decode (mB 34) 4 = .ok (.aload_n 0, 1)) rfl
theorem t34_5 : rn 34 5 ls (.ref a :: r) M = if mK M a = (10, 0) then rn 34 8 ls (va_rf (mP M a 0) :: r) M else none := r_getP (ci := 0) (k := 0) (by decide +kernel : decode (mB 34) 5 = .ok (.getfield 10, 3)) (by decide +kernel) rfl
theorem t34_8 : rn 34 8 ls [.ref a, .ref b] M = if mK M b = (15, 0) then cbn (cl 13 [.ref b, .ref a] M) 34 11 ls [] else none := r_callV (kd := 0) (by decide +kernel : decode (mB 34) 8 = .ok (.invokevirtual 51, 3)) (by decide +kernel) ((doV_n np_13).trans rfl)
theorem t34_11 : rn 34 11 (some (.ref a) :: l) r M = rn 34 12 (some (.ref a) :: l) (.ref a :: r) M := r_aload_n (by decide +kernel : decode (mB 34) 11 = .ok (.aload_n 0, 1)) rfl
theorem t34_12 : rn 34 12 (some (.ref a) :: l) r M = rn 34 13 (some (.ref a) :: l) (.ref a :: r) M := r_aload_n (by decide +kernel : decode (mB 34) 12 = .ok (.aload_n 0, 1)) rfl
theorem t34_13 : rn 34 13 ls (.ref a :: r) M = if mK M a = (10, 0) then rn 34 16 ls (va_rf (mP M a 0) :: r) M else none := r_getP (ci := 0) (k := 0) (by decide +kernel : decode (mB 34) 13 = .ok (.getfield 10, 3)) (by decide +kernel) rfl
theorem t34_16 : rn 34 16 (a0 :: some (.int x) :: l) r M = rn 34 17 (a0 :: some (.int x) :: l) (.int x :: r) M := r_iload_n (by decide +kernel : decode (mB 34) 16 = .ok (.iload_n 1, 1)) rfl
theorem t34_17 : rn 34 17 (a0 :: a1 :: some (.int x) :: l) r M = rn 34 18 (a0 :: a1 :: some (.int x) :: l) (.int x :: r) M := r_iload_n (by decide +kernel : decode (mB 34) 17 = .ok (.iload_n 2, 1)) rfl
theorem t34_18 : rn 34 18 ls [.int x, .int y, .ref a, .ref b] M = if mK M a = (11, 0) then cbn (cl 35 [.ref a, .int y, .int x] M) 34 21 ls [.ref b] else none := r_callV (kd := 0) (by decide +kernel : decode (mB 34) 18 = .ok (.invokevirtual 63, 3)) (by decide +kernel) ((doV_n np_35).trans rfl)
theorem t34_21 : rn 34 21 ls [.int x, .ref a] M = if mK M a = (10, 0) then cbn (cl 28 [.ref a, .int x] M) 34 24 ls [] else none := r_callV (kd := 0) (by decide +kernel : decode (mB 34) 21 = .ok (.invokevirtual 59, 3)) (by decide +kernel) ((doV_n np_28).trans rfl)
theorem t34_24 : rn 34 24 ls [.int x] M = some (some (.int x), M) := r_ireturn (by decide +kernel : decode (mB 34) 24 = .ok (.ireturn, 1)) rfl
-- 38 DR_lose(I)I
theorem t38_0 : rn 38 0 (some (.ref a) :: l) r M = rn 38 1 (some (.ref a) :: l) (.ref a :: r) M := r_aload_n (by decide +kernel : decode (mB 38) 0 = .ok (.aload_n 0, 1)) rfl
theorem t38_1 : rn 38 1 ls (.ref a :: r) M = if mK M a = (10, 0) then rn 38 4 ls (va_rf (mP M a 1) :: r) M else none := r_getP (ci := 0) (k := 1) (by decide +kernel : decode (mB 38) 1 = .ok (.getfield 19, 3)) (by decide +kernel) rfl
theorem t38_4 : rn 38 4 (some (.ref a) :: l) r M = rn 38 5 (some (.ref a) :: l) (.ref a :: r) M := r_aload_n (by decide +kernel : decode (mB 38) 4 = .ok (.aload_n 0, 1)) rfl
theorem t38_5 : rn 38 5 ls (.ref a :: r) M = if mK M a = (10, 0) then rn 38 8 ls (va_rf (mP M a 0) :: r) M else none := r_getP (ci := 0) (k := 0) (by decide +kernel : decode (mB 38) 5 = .ok (.getfield 10, 3)) (by decide +kernel) rfl
theorem t38_8 : rn 38 8 ls [.ref a, .ref b] M = if mK M b = (15, 0) then cbn (cl 13 [.ref b, .ref a] M) 38 11 ls [] else none := r_callV (kd := 0) (by decide +kernel : decode (mB 38) 8 = .ok (.invokevirtual 51, 3)) (by decide +kernel) ((doV_n np_13).trans rfl)
theorem t38_11 : rn 38 11 (some (.ref a) :: l) r M = rn 38 12 (some (.ref a) :: l) (.ref a :: r) M := r_aload_n (by decide +kernel : decode (mB 38) 11 = .ok (.aload_n 0, 1)) rfl
theorem t38_12 : rn 38 12 (some (.ref a) :: l) r M = rn 38 13 (some (.ref a) :: l) (.ref a :: r) M := r_aload_n (by decide +kernel : decode (mB 38) 12 = .ok (.aload_n 0, 1)) rfl
theorem t38_13 : rn 38 13 ls (.ref a :: r) M = if mK M a = (10, 0) then rn 38 16 ls (va_rf (mP M a 0) :: r) M else none := r_getP (ci := 0) (k := 0) (by decide +kernel : decode (mB 38) 13 = .ok (.getfield 10, 3)) (by decide +kernel) rfl
theorem t38_16 : rn 38 16 (a0 :: some (.int x) :: l) r M = rn 38 17 (a0 :: some (.int x) :: l) (.int x :: r) M := r_iload_n (by decide +kernel : decode (mB 38) 16 = .ok (.iload_n 1, 1)) rfl
theorem t38_17 : rn 38 17 ls [.int x, .ref a, .ref b] M = if mK M a = (11, 0) then cbn (cl 39 [.ref a, .int x] M) 38 20 ls [.ref b] else none := r_callV (kd := 0) (by decide +kernel : decode (mB 38) 17 = .ok (.invokevirtual 67, 3)) (by decide +kernel) ((doV_n np_39).trans rfl)
theorem t38_20 : rn 38 20 ls [.int x, .ref a] M = if mK M a = (10, 0) then cbn (cl 28 [.ref a, .int x] M) 38 23 ls [] else none := r_callV (kd := 0) (by decide +kernel : decode (mB 38) 20 = .ok (.invokevirtual 59, 3)) (by decide +kernel) ((doV_n np_28).trans rfl)
theorem t38_23 : rn 38 23 ls [.int x] M = some (some (.int x), M) := r_ireturn (by decide +kernel : decode (mB 38) 23 = .ok (.ireturn, 1)) rfl
-- 43 DR_find(I)I
theorem t43_0 : rn 43 0 (some (.ref a) :: l) r M = rn 43 1 (some (.ref a) :: l) (.ref a :: r) M := r_aload_n (by decide +kernel : decode (mB 43) 0 = .ok (.aload_n 0, 1)) rfl
theorem t43_1 : rn 43 1 ls (.ref a :: r) M = if mK M a = (10, 0) then rn 43 4 ls (va_rf (mP M a 1) :: r) M else none := r_getP (ci := 0) (k := 1) (by decide +kernel : decode (mB 43) 1 = .ok (.getfield 19, 3)) (by decide +kernel) rfl
theorem t43_4 : rn 43 4 (some (.ref a) :: l) r M = rn 43 5 (some (.ref a) :: l) (.ref a :: r) M := r_aload_n (by decide +kernel : decode (mB 43) 4 = .ok (.aload_n 0, 1)) rfl
theorem t43_5 : rn 43 5 ls (.ref a :: r) M = if mK M a = (10, 0) then rn 43 8 ls (va_rf (mP M a 0) :: r) M else none := r_getP (ci := 0) (k := 0) (by decide +kernel : decode (mB 43) 5 = .ok (.getfield 10, 3)) (by decide +kernel) rfl
theorem t43_8 : rn 43 8 ls [.ref a, .ref b] M = if mK M b = (15, 0) then cbn (cl 13 [.ref b, .ref a] M) 43 11 ls [] else none := r_callV (kd := 0) (by decide +kernel : decode (mB 43) 8 = .ok (.invokevirtual 51, 3)) (by decide +kernel) ((doV_n np_13).trans rfl)
theorem t43_11 : rn 43 11 (some (.ref a) :: l) r M = rn 43 12 (some (.ref a) :: l) (.ref a :: r) M := r_aload_n (by decide +kernel : decode (mB 43) 11 = .ok (.aload_n 0, 1)) rfl
theorem t43_12 : rn 43 12 (some (.ref a) :: l) r M = rn 43 13 (some (.ref a) :: l) (.ref a :: r) M := r_aload_n (by decide +kernel : decode (mB 43) 12 = .ok (.aload_n 0, 1)) rfl
theorem t43_13 : rn 43 13 ls (.ref a :: r) M = if mK M a = (10, 0) then rn 43 16 ls (va_rf (mP M a 0) :: r) M else none := r_getP (ci := 0) (k := 0) (by decide +kernel : decode (mB 43) 13 = .ok (.getfield 10, 3)) (by decide +kernel) rfl
theorem t43_16 : rn 43 16 (a0 :: some (.int x) :: l) r M = rn 43 17 (a0 :: some (.int x) :: l) (.int x :: r) M := r_iload_n (by decide +kernel : decode (mB 43) 16 = .ok (.iload_n 1, 1)) rfl
theorem t43_17 : rn 43 17 ls [.int x, .ref a, .ref b] M = if mK M a = (11, 0) then cbn (cl 44 [.ref a, .int x] M) 43 20 ls [.ref b] else none := r_callV (kd := 0) (by decide +kernel : decode (mB 43) 17 = .ok (.invokevirtual 70, 3)) (by decide +kernel) ((doV_n np_44).trans rfl)
theorem t43_20 : rn 43 20 ls [.int x, .ref a] M = if mK M a = (10, 0) then cbn (cl 28 [.ref a, .int x] M) 43 23 ls [] else none := r_callV (kd := 0) (by decide +kernel : decode (mB 43) 20 = .ok (.invokevirtual 59, 3)) (by decide +kernel) ((doV_n np_28).trans rfl)
theorem t43_23 : rn 43 23 ls [.int x] M = some (some (.int x), M) := r_ireturn (by decide +kernel : decode (mB 43) 23 = .ok (.ireturn, 1)) rfl
-- 45 DR_beginAnew()I
theorem t45_0 : rn 45 0 (some (.ref a) :: l) r M = rn 45 1 (some (.ref a) :: l) (.ref a :: r) M := r_aload_n (by decide +kernel : decode (mB 45) 0 = .ok (.aload_n 0, 1)) rfl
theorem t45_1 : rn 45 1 ls (.ref a :: r) M = if mK M a = (10, 0) then rn 45 4 ls (va_rf (mP M a 1) :: r) M else none := r_getP (ci := 0) (k := 1) (by decide +kernel : decode (mB 45) 1 = .ok (.getfield 19, 3)) (by decide +kernel) rfl
theorem t45_4 : rn 45 4 (some (.ref a) :: l) r M = rn 45 5 (some (.ref a) :: l) (.ref a :: r) M := r_aload_n (by decide +kernel : decode (mB 45) 4 = .ok (.aload_n 0, 1)) rfl
theorem t45_5 : rn 45 5 ls (.ref a :: r) M = if mK M a = (10, 0) then rn 45 8 ls (va_rf (mP M a 0) :: r) M else none := r_getP (ci := 0) (k := 0) (by decide +kernel : decode (mB 45) 5 = .ok (.getfield 10, 3)) (by decide +kernel) rfl
theorem t45_8 : rn 45 8 ls [.ref a, .ref b] M = if mK M b = (15, 0) then cbn (cl 13 [.ref b, .ref a] M) 45 11 ls [] else none := r_callV (kd := 0) (by decide +kernel : decode (mB 45) 8 = .ok (.invokevirtual 51, 3)) (by decide +kernel) ((doV_n np_13).trans rfl)
theorem t45_11 : rn 45 11 (some (.ref a) :: l) r M = rn 45 12 (some (.ref a) :: l) (.ref a :: r) M := r_aload_n (by decide +kernel : decode (mB 45) 11 = .ok (.aload_n 0, 1)) rfl
theorem t45_12 : rn 45 12 ls (.ref a :: r) M = if mK M a = (10, 0) then rn 45 15 ls (va_rf (mP M a 0) :: r) M else none := r_getP (ci := 0) (k := 0) (by decide +kernel : decode (mB 45) 12 = .ok (.getfield 10, 3)) (by decide +kernel) rfl
theorem t45_15 : rn 45 15 ls (.ref a :: r) M = if mK M a = (11, 0) then rn 45 18 ls (va_rf (mP M a 1) :: r) M else none := r_getP (ci := 1) (k := 1) (by decide +kernel : decode (mB 45) 15 = .ok (.getfield 73, 3)) (by decide +kernel) rfl
theorem t45_18 : rn 45 18 ls (.ref a :: r) M = if mK M a = (13, 0) then rn 45 21 ls (.long (mJ M a 0) :: r) M else none := r_getJ (ci := 3) (k := 0) (by decide +kernel : decode (mB 45) 18 = .ok (.getfield 76, 3)) (by decide +kernel) rfl
theorem t45_21 : rn 45 21 ls [.long u] M = cbn (cl 37 [.long u] M) 45 24 ls [] := r_callS (kd := 2) (by decide +kernel : decode (mB 45) 21 = .ok (.invokestatic 80, 3)) (by decide +kernel) (by decide +kernel) ((doS_n np_37).trans rfl)
theorem t45_24 : rn 45 24 (a0 :: a1 :: l) (.int x :: r) M = rn 45 25 (a0 :: some (.int x) :: l) r M := r_istore_n (by decide +kernel : decode (mB 45) 24 = .ok (.istore_n 1, 1)) (Nat.le_add_left 2 l.length)
theorem t45_25 : rn 45 25 (some (.ref a) :: l) r M = rn 45 26 (some (.ref a) :: l) (.ref a :: r) M := r_aload_n (by decide +kernel : decode (mB 45) 25 = .ok (.aload_n 0, 1)) rfl
theorem t45_26 : rn 45 26 ls (.ref a :: r) M = if mK M a = (10, 0) then rn 45 29 ls (va_rf (mP M a 0) :: r) M else none := r_getP (ci := 0) (k := 0) (by decide +kernel : decode (mB 45) 26 = .ok (.getfield 10, 3)) (by decide +kernel) rfl
theorem t45_29 : rn 45 29 ls (.ref a :: r) M = if mK M a = (11, 0) then rn 45 32 ls (va_rf (mP M a 1) :: r) M else none := r_getP (ci := 1) (k := 1) (by decide +kernel : decode (mB 45) 29 = .ok (.getfield 73, 3)) (by decide +kernel) rfl
theorem t45_32 : rn 45 32 ls [.ref a] M = if mK M a = (13, 0) then cbn (cl 7 [.ref a] M) 45 35 ls [] else none := r_callV (kd := 0) (by decide +kernel : decode (mB 45) 32 = .ok (.invokevirtual 86, 3)) (by decide +kernel) ((doV_n np_7).trans rfl)
theorem t45_35 : rn 45 35 (some (.ref a) :: l) r M = rn 45 36 (some (.ref a) :: l) (.ref a :: r) M := r_aload_n (by decide +kernel : decode (mB 45) 35 = .ok (.aload_n 0, 1)) rfl
theorem t45_36 : rn 45 36 (a0 :: some (.int x) :: l) r M = rn 45 37 (a0 :: some (.int x) :: l) (.int x :: r) M := r_iload_n (by decide +kernel : decode (mB 45) 36 = .ok (.iload_n 1, 1)) rfl
theorem t45_37 : rn 45 37 ls [.int x, .ref a] M = if mK M a = (10, 0) then cbn (cl 28 [.ref a, .int x] M) 45 40 ls [] else none := r_callV (kd := 0) (by decide +kernel : decode (mB 45) 37 = .ok (.invokevirtual 59, 3)) (by decide +kernel) ((doV_n np_28).trans rfl)
theorem t45_40 : rn 45 40 ls [.int x] M = some (some (.int x), M) := r_ireturn (by decide +kernel : decode (mB 45) 40 = .ok (.ireturn, 1)) rfl
-- 46 DR_round()I
theorem t46_0 : rn 46 0 (some (.ref a) :: l) r M = rn 46 1 (some (.ref a) :: l) (.ref a :: r) M := r_aload_n (by decide +kernel : decode (mB 46) 0 = .ok (.aload_n 0, 1)) rfl
theorem t46_1 : rn 46 1 ls (.ref a :: r) M = if mK M a = (10, 0) then rn 46 4 ls (va_rf (mP M a 1) :: r) M else none := r_getP (ci := 0) (k := 1) (by decide +kernel : decode (mB 46) 1 = .ok (.getfield 19, 3)) (by decide +kernel) rfl
theorem t46_4 : rn 46 4 (some (.ref a) :: l) r M = rn 46 5 (some (.ref a) :: l) (.ref a :: r) M := r_aload_n (by decide +kernel : decode (mB 46) 4 = .ok (.aload_n 0, 1)) rfl
theorem t46_5 : rn 46 5 ls (.ref a :: r) M = if mK M a = (10, 0) then rn 46 8 ls (va_rf (mP M a 0) :: r) M else none := r_getP (ci := 0) (k := 0) (by decide +kernel : decode (mB 46) 5 = .ok (.getfield 10, 3)) (by decide +kernel) rfl
theorem t46_8 : rn 46 8 ls [.ref a, .ref b] M = if mK M b = (15, 0) then cbn (cl 13 [.ref b, .ref a] M) 46 11 ls [] else none := r_callV (kd := 0) (by decide +kernel : decode (mB 46) 8 = .ok (.invokevirtual 51, 3)) (by decide +kernel) ((doV_n np_13).trans rfl)
theorem t46_11 : rn 46 11 (some (.ref a) :: l) r M = rn 46 12 (some (.ref a) :: l) (.ref a :: r) M := r_aload_n (by decide +kernel : decode (mB 46) 11 = .ok (.aload_n 0, 1)) rfl
theorem t46_12 : rn 46 12 (some (.ref a) :: l) r M = rn 46 13 (some (.ref a) :: l) (.ref a :: r) M := r_aload_n (by decide +kernel : decode (mB 46) 12 = .ok (.aload_n 0, 1)) rfl
theorem t46_13 : rn 46 13 ls (.ref a :: r) M = if mK M a = (10, 0) then rn 46 16 ls (va_rf (mP M a 0) :: r) M else none := r_getP (ci := 0) (k := 0) (by decide +kernel : decode (mB 46) 13 = .ok (.getfield 10, 3)) (by decide +kernel) rfl
theorem t46_16 : rn 46 16 ls (.ref a :: r) M = if mK M a = (11, 0) then rn 46 19 ls (va_rf (mP M a 1) :: r) M else none := r_getP (ci := 1) (k := 1) (by decide +kernel : decode (mB 46) 16 = .ok (.getfield 73, 3)) (by decide +kernel) rfl
theorem t46_19 : rn 46 19 (some (.ref a) :: l) r M = rn 46 20 (some (.ref a) :: l) (.ref a :: r) M := r_aload_n (by decide +kernel : decode (mB 46) 19 = .ok (.aload_n 0, 1)) rfl
theorem t46_20 : rn 46 20 ls (.ref a :: r) M = if mK M a = (10, 0) then rn 46 23 ls (va_rf (mP M a 0) :: r) M else none := r_getP (ci := 0) (k := 0) (by decide +kernel : decode (mB 46) 20 = .ok (.getfield 10, 3)) (by decide +kernel) rfl
theorem t46_23 : rn 46 23 ls (.ref a :: r) M = if mK M a = (11, 0) then rn 46 26 ls (va_rf (mP M a 0) :: r) M else none := r_getP (ci := 1) (k := 0) (by decide +kernel : decode (mB 46) 23 = .ok (.getfield 89, 3)) (by decide +kernel) rfl
theorem t46_26 : rn 46 26 ls [.ref a, .ref b, .ref c] M = if mK M b = (13, 0) then cbn (cl 47 [.ref b, .ref a] M) 46 29 ls [.ref c] else none := r_callV (kd := 0) (by decide +kernel : decode (mB 46) 26 = .ok (.invokevirtual 93, 3)) (by decide +kernel) ((doV_n np_47).trans rfl)
theorem t46_29 : rn 46 29 ls [.int x, .ref a] M = if mK M a = (10, 0) then cbn (cl 28 [.ref a, .int x] M) 46 32 ls [] else none := r_callV (kd := 0) (by decide +kernel : decode (mB 46) 29 = .ok (.invokevirtual 59, 3)) (by decide +kernel) ((doV_n np_28).trans rfl)
theorem t46_32 : rn 46 32 ls [.int x] M = some (some (.int x), M) := r_ireturn (by decide +kernel : decode (mB 46) 32 = .ok (.ireturn, 1)) rfl
-- 57 DR_replay()I
theorem t57_0 : rn 57 0 (some (.ref a) :: l) r M = rn 57 1 (some (.ref a) :: l) (.ref a :: r) M := r_aload_n (by decide +kernel : decode (mB 57) 0 = .ok (.aload_n 0, 1)) rfl
theorem t57_1 : rn 57 1 ls (.ref a :: r) M = if mK M a = (10, 0) then rn 57 4 ls (va_rf (mP M a 1) :: r) M else none := r_getP (ci := 0) (k := 1) (by decide +kernel : decode (mB 57) 1 = .ok (.getfield 19, 3)) (by decide +kernel) rfl
theorem t57_4 : rn 57 4 (some (.ref a) :: l) r M = rn 57 5 (some (.ref a) :: l) (.ref a :: r) M := r_aload_n (by decide +kernel : decode (mB 57) 4 = .ok (.aload_n 0, 1)) rfl
theorem t57_5 : rn 57 5 ls (.ref a :: r) M = if mK M a = (10, 0) then rn 57 8 ls (va_rf (mP M a 0) :: r) M else none := r_getP (ci := 0) (k := 0) (by decide +kernel : decode (mB 57) 5 = .ok (.getfield 10, 3)) (by decide +kernel) rfl
theorem t57_8 : rn 57 8 ls [.ref a, .ref b] M = if mK M b = (15, 0) then cbn (cl 13 [.ref b, .ref a] M) 57 11 ls [] else none := r_callV (kd := 0) (by decide +kernel : decode (mB 57) 8 = .ok (.invokevirtual 51, 3)) (by decide +kernel) ((doV_n np_13).trans rfl)
theorem t57_11 : rn 57 11 (some (.ref a) :: l) r M = rn 57 12 (some (.ref a) :: l) (.ref a :: r) M := r_aload_n (by decide +kernel : decode (mB 57) 11 = .ok (.aload_n 0, 1)) rfl
theorem t57_12 : rn 57 12 (some (.ref a) :: l) r M = rn 57 13 (some (.ref a) :: l) (.ref a :: r) M := r_aload_n (by decide +kernel : decode (mB 57) 12 = .ok (.aload_n 0, 1)) rfl
theorem t57_13 : rn 57 13 ls (.ref a :: r) M = if mK M a = (10, 0) then rn 57 16 ls (va_rf (mP M a 0) :: r) M else none := r_getP (ci := 0) (k := 0) (by decide +kernel : decode (mB 57) 13 = .ok (.getfield 10, 3)) (by decide +kernel) rfl
theorem t57_16 : rn 57 16 ls (.ref a :: r) M = if mK M a = (11, 0) then rn 57 19 ls (va_rf (mP M a 1) :: r) M else none := r_getP (ci := 1) (k := 1) (by decide +kernel : decode (mB 57) 16 = .ok (.getfield 73, 3)) (by decide +kernel) rfl
theorem t57_19 : rn 57 19 (some (.ref a) :: l) r M = rn 57 20 (some (.ref a) :: l) (.ref a :: r) M := r_aload_n (by decide +kernel : decode (mB 57) 19 = .ok (.aload_n 0, 1)) rfl
theorem t57_20 : rn 57 20 ls (.ref a :: r) M = if mK M a = (10, 0) then rn 57 23 ls (va_rf (mP M a 0) :: r) M else none := r_getP (ci := 0) (k := 0) (by decide +kernel : decode (mB 57) 20 = .ok (.getfield 10, 3)) (by decide +kernel) rfl
theorem t57_23 : rn 57 23 ls (.ref a :: r) M = if mK M a = (11, 0) then rn 57 26 ls (va_rf (mP M a 0) :: r) M else none := r_getP (ci := 1) (k := 0) (by decide +kernel : decode (mB 57) 23 = .ok (.getfield 89, 3)) (by decide +kernel) rfl
theorem t57_26 : rn 57 26 ls [.ref a, .ref b, .ref c] M = if mK M b = (13, 0) then cbn (cl 58 [.ref b, .ref a] M) 57 29 ls [.ref c] else none := r_callV (kd := 0) (by decide +kernel : decode (mB 57) 26 = .ok (.invokevirtual 97, 3)) (by decide +kernel) ((doV_n np_58).trans rfl)
theorem t57_29 : rn 57 29 ls [.int x, .ref a] M = if mK M a = (10, 0) then cbn (cl 28 [.ref a, .int x] M) 57 32 ls [] else none := r_callV (kd := 0) (by decide +kernel : decode (mB 57) 29 = .ok (.invokevirtual 59, 3)) (by decide +kernel) ((doV_n np_28).trans rfl)
theorem t57_32 : rn 57 32 ls [.int x] M = some (some (.int x), M) := r_ireturn (by decide +kernel : decode (mB 57) 32 = .ok (.ireturn, 1)) rfl
-- 59 DR_ofEntry(II)I
theorem t59_0 : rn 59 0 (some (.ref a) :: l) r M = rn 59 1 (some (.ref a) :: l) (.ref a :: r) M := r_aload_n (by decide +kernel : decode (mB 59) 0 = .ok (.aload_n 0, 1)) rfl
theorem t59_1 : rn 59 1 ls (.ref a :: r) M = if mK M a = (10, 0) then rn 59 4 ls (va_rf (mP M a 0) :: r) M else none := r_getP (ci := 0) (k := 0) (by decide +kernel : decode (mB 59) 1 = .ok (.getfield 10, 3)) (by decide +kernel) rfl
theorem t59_4 : rn 59 4 ls (.ref a :: r) M = if mK M a = (11, 0) then rn 59 7 ls (va_rf (mP M a 0) :: r) M else none := r_getP (ci := 1) (k := 0) (by decide +kernel : decode (mB 59) 4 = .ok (.getfield 89, 3)) (by decide +kernel) rfl
theorem t59_7 : rn 59 7 (a0 :: a1 :: a2 :: a3 :: l) (.ref a :: r) M = rn 59 8 (a0 :: a1 :: a2 :: some (.ref a) :: l) r M := r_astore_n (by decide +kernel : decode (mB 59) 7 = .ok (.astore_n 3, 1)) (Nat.le_add_left 4 l.length)
theorem t59_8 : rn 59 8 (a0 :: a1 :: a2 :: some (.ref a) :: l) r M = rn 59 9 (a0 :: a1 :: a2 :: some (.ref a) :: l) (.ref a :: r) M := r_aload_n (by decide +kernel : decode (mB 59) 8 = .ok (.aload_n 3, 1)) rfl
theorem t59_9 : rn 59 9 (a0 :: some (.int x) :: l) r M = rn 59 10 (a0 :: some (.int x) :: l) (.int x :: r) M := r_iload_n (by decide +kernel : decode (mB 59) 9 = .ok (.iload_n 1, 1)) rfl
theorem t59_10 : rn 59 10 ls [.int x, .ref a] M = if mK M a = (12, 0) then cbn (cl 36 [.ref a, .int x] M) 59 13 ls [] else none := r_callV (kd := 0) (by decide +kernel : decode (mB 59) 10 = .ok (.invokevirtual 100, 3)) (by decide +kernel) ((doV_n np_36).trans rfl)
theorem t59_13 : rn 59 13 ls (.int x :: r) M = if ¬ x = 0 then rn 59 18 ls r M else rn 59 16 ls r M := r_if (o := 5) (r := r) (c := ¬ x = 0) (by decide +kernel : decode (mB 59) 13 = .ok (.ifCond .ne 5, 3)) rfl (by decide) rfl
theorem t59_16 : rn 59 16 ls r M = rn 59 17 ls (.int (-1) :: r) M := r_nx (by decide +kernel : decode (mB 59) 16 = .ok (.iconst (-1), 1)) rfl rfl
theorem t59_17 : rn 59 17 ls [.int x] M = some (some (.int x), M) := r_ireturn (by decide +kernel : decode (mB 59) 17 = .ok (.ireturn, 1)) rfl
theorem t59_18 : rn 59 18 (a0 :: a1 :: some (.int x) :: l) r M = rn 59 19 (a0 :: a1 :: some (.int x) :: l) (.int x :: r) M := r_iload_n (by decide +kernel : decode (mB 59) 18 = .ok (.iload_n 2, 1)) rfl
theorem t59_19 : rn 59 19 ls (.int x :: r) M = if x = 0 then rn 59 68 ls r M else if x = 1 then rn 59 75 ls r M else if x = 2 then rn 59 82 ls r M else if x = 3 then rn 59 89 ls r M else if x = 4 then rn 59 106 ls r M else if x = 5 then rn 59 123 ls r M else if x = 6 then rn 59 136 ls r M else if x = 7 then rn 59 149 ls r M else if x = 8 then rn 59 159 ls r M else rn 59 165 ls r M := by
  have D := (by decide +kernel : decode (mB 59) 19 = .ok (.tableswitch 146 0 8 #[49, 56, 63, 70, 87, 104, 117, 130, 140], 49))
  by_cases h0 : x = 0
  · rw [h0, r_tab D]; rfl
  by_cases h1 : x = 1
  · rw [h1, r_tab D]; rfl
  by_cases h2 : x = 2
  · rw [h2, r_tab D]; rfl
  by_cases h3 : x = 3
  · rw [h3, r_tab D]; rfl
  by_cases h4 : x = 4
  · rw [h4, r_tab D]; rfl
  by_cases h5 : x = 5
  · rw [h5, r_tab D]; rfl
  by_cases h6 : x = 6
  · rw [h6, r_tab D]; rfl
  by_cases h7 : x = 7
  · rw [h7, r_tab D]; rfl
  by_cases h8 : x = 8
  · rw [h8, r_tab D]; rfl
  rw [r_tabO D (by have e0 : x.toInt ≠ 0 := ti_ne h0; have e1 : x.toInt ≠ 1 := ti_ne h1; have e2 : x.toInt ≠ 2 := ti_ne h2; have e3 : x.toInt ≠ 3 := ti_ne h3; have e4 : x.toInt ≠ 4 := ti_ne h4; have e5 : x.toInt ≠ 5 := ti_ne h5; have e6 : x.toInt ≠ 6 := ti_ne h6; have e7 : x.toInt ≠ 7 := ti_ne h7; have e8 : x.toInt ≠ 8 := ti_ne h8; omega) (by decide), if_neg h0, if_neg h1, if_neg h2, if_neg h3, if_neg h4, if_neg h5, if_neg h6, if_neg h7, if_neg h8]
  rfl
theorem t59_68 : rn 59 68 (a0 :: a1 :: a2 :: some (.ref a) :: l) r M = rn 59 69 (a0 :: a1 :: a2 :: some (.ref a) :: l) (.ref a :: r) M := r_aload_n (by decide +kernel : decode (mB 59) 68 = .ok (.aload_n 3, 1)) rfl
theorem t59_69 : rn 59 69 ls (.ref a :: r) M = if mK M a = (12, 0) then rn 59 72 ls (va_rf (mP M a 2) :: r) M else none := r_getP (ci := 2) (k := 2) (by decide +kernel : decode (mB 59) 69 = .ok (.getfield 106, 3)) (by decide +kernel) rfl
theorem t59_72 : rn 59 72 (a0 :: some (.int x) :: l) r M = rn 59 73 (a0 :: some (.int x) :: l) (.int x :: r) M := r_iload_n (by decide +kernel : decode (mB 59) 72 = .ok (.iload_n 1, 1)) rfl
theorem t59_73 : rn 59 73 ls (.int x :: .ref a :: r) M = if ((mK M a).1 = 1 ∨ (mK M a).1 = 5) ∧ inR x (mK M a).2 then rn 59 74 ls (.int (mI M a x.toNatClampNeg) :: r) M else none := r_cnd (by decide +kernel : decode (mB 59) 73 = .ok (.iaload, 1)) rfl rfl
theorem t59_74 : rn 59 74 ls [.int x] M = some (some (.int x), M) := r_ireturn (by decide +kernel : decode (mB 59) 74 = .ok (.ireturn, 1)) rfl
theorem t59_75 : rn 59 75 (a0 :: a1 :: a2 :: some (.ref a) :: l) r M = rn 59 76 (a0 :: a1 :: a2 :: some (.ref a) :: l) (.ref a :: r) M := r_aload_n (by decide +kernel : decode (mB 59) 75 = .ok (.aload_n 3, 1)) rfl
theorem t59_76 : rn 59 76 ls (.ref a :: r) M = if mK M a = (12, 0) then rn 59 79 ls (va_rf (mP M a 3) :: r) M else none := r_getP (ci := 2) (k := 3) (by decide +kernel : decode (mB 59) 76 = .ok (.getfield 110, 3)) (by decide +kernel) rfl
theorem t59_79 : rn 59 79 (a0 :: some (.int x) :: l) r M = rn 59 80 (a0 :: some (.int x) :: l) (.int x :: r) M := r_iload_n (by decide +kernel : decode (mB 59) 79 = .ok (.iload_n 1, 1)) rfl
theorem t59_80 : rn 59 80 ls (.int x :: .ref a :: r) M = if ((mK M a).1 = 1 ∨ (mK M a).1 = 5) ∧ inR x (mK M a).2 then rn 59 81 ls (.int (mI M a x.toNatClampNeg) :: r) M else none := r_cnd (by decide +kernel : decode (mB 59) 80 = .ok (.iaload, 1)) rfl rfl
theorem t59_81 : rn 59 81 ls [.int x] M = some (some (.int x), M) := r_ireturn (by decide +kernel : decode (mB 59) 81 = .ok (.ireturn, 1)) rfl
theorem t59_82 : rn 59 82 (a0 :: a1 :: a2 :: some (.ref a) :: l) r M = rn 59 83 (a0 :: a1 :: a2 :: some (.ref a) :: l) (.ref a :: r) M := r_aload_n (by decide +kernel : decode (mB 59) 82 = .ok (.aload_n 3, 1)) rfl
theorem t59_83 : rn 59 83 ls (.ref a :: r) M = if mK M a = (12, 0) then rn 59 86 ls (va_rf (mP M a 4) :: r) M else none := r_getP (ci := 2) (k := 4) (by decide +kernel : decode (mB 59) 83 = .ok (.getfield 113, 3)) (by decide +kernel) rfl
theorem t59_86 : rn 59 86 (a0 :: some (.int x) :: l) r M = rn 59 87 (a0 :: some (.int x) :: l) (.int x :: r) M := r_iload_n (by decide +kernel : decode (mB 59) 86 = .ok (.iload_n 1, 1)) rfl
theorem t59_87 : rn 59 87 ls (.int x :: .ref a :: r) M = if ((mK M a).1 = 1 ∨ (mK M a).1 = 5) ∧ inR x (mK M a).2 then rn 59 88 ls (.int (mI M a x.toNatClampNeg) :: r) M else none := r_cnd (by decide +kernel : decode (mB 59) 87 = .ok (.iaload, 1)) rfl rfl
theorem t59_88 : rn 59 88 ls [.int x] M = some (some (.int x), M) := r_ireturn (by decide +kernel : decode (mB 59) 88 = .ok (.ireturn, 1)) rfl
theorem t59_89 : rn 59 89 (a0 :: a1 :: a2 :: some (.ref a) :: l) r M = rn 59 90 (a0 :: a1 :: a2 :: some (.ref a) :: l) (.ref a :: r) M := r_aload_n (by decide +kernel : decode (mB 59) 89 = .ok (.aload_n 3, 1)) rfl
theorem t59_90 : rn 59 90 ls (.ref a :: r) M = if mK M a = (12, 0) then rn 59 93 ls (.long (mJ M a 1) :: r) M else none := r_getJ (ci := 2) (k := 1) (by decide +kernel : decode (mB 59) 90 = .ok (.getfield 116, 3)) (by decide +kernel) rfl
theorem t59_93 : rn 59 93 (a0 :: some (.int x) :: l) r M = rn 59 94 (a0 :: some (.int x) :: l) (.int x :: r) M := r_iload_n (by decide +kernel : decode (mB 59) 93 = .ok (.iload_n 1, 1)) rfl
theorem t59_94 : rn 59 94 ls [.int x, .long u] M = cbn (cl 27 [.long u, .int x] M) 59 97 ls [] := r_callS (kd := 2) (by decide +kernel : decode (mB 59) 94 = .ok (.invokestatic 119, 3)) (by decide +kernel) (by decide +kernel) ((doS_n np_27).trans rfl)
theorem t59_97 : rn 59 97 ls (.int x :: r) M = if x = 0 then rn 59 104 ls r M else rn 59 100 ls r M := r_if (o := 7) (r := r) (c := x = 0) (by decide +kernel : decode (mB 59) 97 = .ok (.ifCond .eq 7, 3)) rfl (by decide) rfl
theorem t59_100 : rn 59 100 ls r M = rn 59 101 ls (.int 1 :: r) M := r_nx (by decide +kernel : decode (mB 59) 100 = .ok (.iconst 1, 1)) rfl rfl
theorem t59_101 : rn 59 101 ls r M = rn 59 105 ls r M := r_goto (o := 4) (by decide +kernel : decode (mB 59) 101 = .ok (.goto 4, 3)) (by decide)
theorem t59_104 : rn 59 104 ls r M = rn 59 105 ls (.int 0 :: r) M := r_nx (by decide +kernel : decode (mB 59) 104 = .ok (.iconst 0, 1)) rfl rfl
theorem t59_105 : rn 59 105 ls [.int x] M = some (some (.int x), M) := r_ireturn (by decide +kernel : decode (mB 59) 105 = .ok (.ireturn, 1)) rfl
theorem t59_106 : rn 59 106 (a0 :: a1 :: a2 :: some (.ref a) :: l) r M = rn 59 107 (a0 :: a1 :: a2 :: some (.ref a) :: l) (.ref a :: r) M := r_aload_n (by decide +kernel : decode (mB 59) 106 = .ok (.aload_n 3, 1)) rfl
theorem t59_107 : rn 59 107 ls [.ref a] M = if mK M a = (12, 0) then cbn (cl 41 [.ref a] M) 59 110 ls [] else none := r_callV (kd := 0) (by decide +kernel : decode (mB 59) 107 = .ok (.invokevirtual 123, 3)) (by decide +kernel) ((doV_n np_41).trans rfl)
theorem t59_110 : rn 59 110 (a0 :: some (.int x) :: l) r M = rn 59 111 (a0 :: some (.int x) :: l) (.int x :: r) M := r_iload_n (by decide +kernel : decode (mB 59) 110 = .ok (.iload_n 1, 1)) rfl
theorem t59_111 : rn 59 111 ls [.int x, .long u] M = cbn (cl 27 [.long u, .int x] M) 59 114 ls [] := r_callS (kd := 2) (by decide +kernel : decode (mB 59) 111 = .ok (.invokestatic 119, 3)) (by decide +kernel) (by decide +kernel) ((doS_n np_27).trans rfl)
theorem t59_114 : rn 59 114 ls (.int x :: r) M = if x = 0 then rn 59 121 ls r M else rn 59 117 ls r M := r_if (o := 7) (r := r) (c := x = 0) (by decide +kernel : decode (mB 59) 114 = .ok (.ifCond .eq 7, 3)) rfl (by decide) rfl
theorem t59_117 : rn 59 117 ls r M = rn 59 118 ls (.int 1 :: r) M := r_nx (by decide +kernel : decode (mB 59) 117 = .ok (.iconst 1, 1)) rfl rfl
theorem t59_118 : rn 59 118 ls r M = rn 59 122 ls r M := r_goto (o := 4) (by decide +kernel : decode (mB 59) 118 = .ok (.goto 4, 3)) (by decide)
theorem t59_121 : rn 59 121 ls r M = rn 59 122 ls (.int 0 :: r) M := r_nx (by decide +kernel : decode (mB 59) 121 = .ok (.iconst 0, 1)) rfl rfl
theorem t59_122 : rn 59 122 ls [.int x] M = some (some (.int x), M) := r_ireturn (by decide +kernel : decode (mB 59) 122 = .ok (.ireturn, 1)) rfl
theorem t59_123 : rn 59 123 (some (.ref a) :: l) r M = rn 59 124 (some (.ref a) :: l) (.ref a :: r) M := r_aload_n (by decide +kernel : decode (mB 59) 123 = .ok (.aload_n 0, 1)) rfl
theorem t59_124 : rn 59 124 ls (.ref a :: r) M = if mK M a = (10, 0) then rn 59 127 ls (va_rf (mP M a 0) :: r) M else none := r_getP (ci := 0) (k := 0) (by decide +kernel : decode (mB 59) 124 = .ok (.getfield 10, 3)) (by decide +kernel) rfl
theorem t59_127 : rn 59 127 ls (.ref a :: r) M = if mK M a = (11, 0) then rn 59 130 ls (va_rf (mP M a 1) :: r) M else none := r_getP (ci := 1) (k := 1) (by decide +kernel : decode (mB 59) 127 = .ok (.getfield 73, 3)) (by decide +kernel) rfl
theorem t59_130 : rn 59 130 ls (.ref a :: r) M = if mK M a = (13, 0) then rn 59 133 ls (va_rf (mP M a 4) :: r) M else none := r_getP (ci := 3) (k := 4) (by decide +kernel : decode (mB 59) 130 = .ok (.getfield 127, 3)) (by decide +kernel) rfl
theorem t59_133 : rn 59 133 (a0 :: some (.int x) :: l) r M = rn 59 134 (a0 :: some (.int x) :: l) (.int x :: r) M := r_iload_n (by decide +kernel : decode (mB 59) 133 = .ok (.iload_n 1, 1)) rfl
theorem t59_134 : rn 59 134 ls (.int x :: .ref a :: r) M = if ((mK M a).1 = 1 ∨ (mK M a).1 = 5) ∧ inR x (mK M a).2 then rn 59 135 ls (.int (mI M a x.toNatClampNeg) :: r) M else none := r_cnd (by decide +kernel : decode (mB 59) 134 = .ok (.iaload, 1)) rfl rfl
theorem t59_135 : rn 59 135 ls [.int x] M = some (some (.int x), M) := r_ireturn (by decide +kernel : decode (mB 59) 135 = .ok (.ireturn, 1)) rfl
theorem t59_136 : rn 59 136 (some (.ref a) :: l) r M = rn 59 137 (some (.ref a) :: l) (.ref a :: r) M := r_aload_n (by decide +kernel : decode (mB 59) 136 = .ok (.aload_n 0, 1)) rfl
theorem t59_137 : rn 59 137 ls (.ref a :: r) M = if mK M a = (10, 0) then rn 59 140 ls (va_rf (mP M a 0) :: r) M else none := r_getP (ci := 0) (k := 0) (by decide +kernel : decode (mB 59) 137 = .ok (.getfield 10, 3)) (by decide +kernel) rfl
theorem t59_140 : rn 59 140 ls (.ref a :: r) M = if mK M a = (11, 0) then rn 59 143 ls (va_rf (mP M a 1) :: r) M else none := r_getP (ci := 1) (k := 1) (by decide +kernel : decode (mB 59) 140 = .ok (.getfield 73, 3)) (by decide +kernel) rfl
theorem t59_143 : rn 59 143 ls (.ref a :: r) M = if mK M a = (13, 0) then rn 59 146 ls (va_rf (mP M a 5) :: r) M else none := r_getP (ci := 3) (k := 5) (by decide +kernel : decode (mB 59) 143 = .ok (.getfield 130, 3)) (by decide +kernel) rfl
theorem t59_146 : rn 59 146 (a0 :: some (.int x) :: l) r M = rn 59 147 (a0 :: some (.int x) :: l) (.int x :: r) M := r_iload_n (by decide +kernel : decode (mB 59) 146 = .ok (.iload_n 1, 1)) rfl
theorem t59_147 : rn 59 147 ls (.int x :: .ref a :: r) M = if ((mK M a).1 = 1 ∨ (mK M a).1 = 5) ∧ inR x (mK M a).2 then rn 59 148 ls (.int (mI M a x.toNatClampNeg) :: r) M else none := r_cnd (by decide +kernel : decode (mB 59) 147 = .ok (.iaload, 1)) rfl rfl
theorem t59_148 : rn 59 148 ls [.int x] M = some (some (.int x), M) := r_ireturn (by decide +kernel : decode (mB 59) 148 = .ok (.ireturn, 1)) rfl
theorem t59_149 : rn 59 149 (a0 :: a1 :: a2 :: some (.ref a) :: l) r M = rn 59 150 (a0 :: a1 :: a2 :: some (.ref a) :: l) (.ref a :: r) M := r_aload_n (by decide +kernel : decode (mB 59) 149 = .ok (.aload_n 3, 1)) rfl
theorem t59_150 : rn 59 150 ls (.ref a :: r) M = if mK M a = (12, 0) then rn 59 153 ls (va_rf (mP M a 5) :: r) M else none := r_getP (ci := 2) (k := 5) (by decide +kernel : decode (mB 59) 150 = .ok (.getfield 133, 3)) (by decide +kernel) rfl
theorem t59_153 : rn 59 153 (a0 :: some (.int x) :: l) r M = rn 59 154 (a0 :: some (.int x) :: l) (.int x :: r) M := r_iload_n (by decide +kernel : decode (mB 59) 153 = .ok (.iload_n 1, 1)) rfl
theorem t59_154 : rn 59 154 ls (.int x :: .ref a :: r) M = if (mK M a).1 = 2 ∧ inR x (mK M a).2 then rn 59 155 ls (.long (mJ M a x.toNatClampNeg) :: r) M else none := r_cnd (by decide +kernel : decode (mB 59) 154 = .ok (.laload, 1)) rfl rfl
theorem t59_155 : rn 59 155 ls [.long u] M = cbn (cl 37 [.long u] M) 59 158 ls [] := r_callS (kd := 2) (by decide +kernel : decode (mB 59) 155 = .ok (.invokestatic 80, 3)) (by decide +kernel) (by decide +kernel) ((doS_n np_37).trans rfl)
theorem t59_158 : rn 59 158 ls [.int x] M = some (some (.int x), M) := r_ireturn (by decide +kernel : decode (mB 59) 158 = .ok (.ireturn, 1)) rfl
theorem t59_159 : rn 59 159 (a0 :: a1 :: a2 :: some (.ref a) :: l) r M = rn 59 160 (a0 :: a1 :: a2 :: some (.ref a) :: l) (.ref a :: r) M := r_aload_n (by decide +kernel : decode (mB 59) 159 = .ok (.aload_n 3, 1)) rfl
theorem t59_160 : rn 59 160 (a0 :: some (.int x) :: l) r M = rn 59 161 (a0 :: some (.int x) :: l) (.int x :: r) M := r_iload_n (by decide +kernel : decode (mB 59) 160 = .ok (.iload_n 1, 1)) rfl
theorem t59_161 : rn 59 161 ls [.int x, .ref a] M = if mK M a = (12, 0) then cbn (cl 60 [.ref a, .int x] M) 59 164 ls [] else none := r_callV (kd := 0) (by decide +kernel : decode (mB 59) 161 = .ok (.invokevirtual 137, 3)) (by decide +kernel) ((doV_n np_60).trans rfl)
theorem t59_164 : rn 59 164 ls [.int x] M = some (some (.int x), M) := r_ireturn (by decide +kernel : decode (mB 59) 164 = .ok (.ireturn, 1)) rfl
theorem t59_165 : rn 59 165 ls r M = rn 59 167 ls (.int (-2) :: r) M := r_nx (by decide +kernel : decode (mB 59) 165 = .ok (.bipush (-2), 2)) rfl rfl
theorem t59_167 : rn 59 167 ls [.int x] M = some (some (.int x), M) := r_ireturn (by decide +kernel : decode (mB 59) 167 = .ok (.ireturn, 1)) rfl
-- 61 DR_dependsOn(I)J
theorem t61_0 : rn 61 0 (some (.ref a) :: l) r M = rn 61 1 (some (.ref a) :: l) (.ref a :: r) M := r_aload_n (by decide +kernel : decode (mB 61) 0 = .ok (.aload_n 0, 1)) rfl
theorem t61_1 : rn 61 1 ls (.ref a :: r) M = if mK M a = (10, 0) then rn 61 4 ls (va_rf (mP M a 0) :: r) M else none := r_getP (ci := 0) (k := 0) (by decide +kernel : decode (mB 61) 1 = .ok (.getfield 10, 3)) (by decide +kernel) rfl
theorem t61_4 : rn 61 4 ls (.ref a :: r) M = if mK M a = (11, 0) then rn 61 7 ls (va_rf (mP M a 0) :: r) M else none := r_getP (ci := 1) (k := 0) (by decide +kernel : decode (mB 61) 4 = .ok (.getfield 89, 3)) (by decide +kernel) rfl
theorem t61_7 : rn 61 7 (a0 :: some (.int x) :: l) r M = rn 61 8 (a0 :: some (.int x) :: l) (.int x :: r) M := r_iload_n (by decide +kernel : decode (mB 61) 7 = .ok (.iload_n 1, 1)) rfl
theorem t61_8 : rn 61 8 ls [.int x, .ref a] M = if mK M a = (12, 0) then cbn (cl 36 [.ref a, .int x] M) 61 11 ls [] else none := r_callV (kd := 0) (by decide +kernel : decode (mB 61) 8 = .ok (.invokevirtual 100, 3)) (by decide +kernel) ((doV_n np_36).trans rfl)
theorem t61_11 : rn 61 11 ls (.int x :: r) M = if x = 0 then rn 61 29 ls r M else rn 61 14 ls r M := r_if (o := 18) (r := r) (c := x = 0) (by decide +kernel : decode (mB 61) 11 = .ok (.ifCond .eq 18, 3)) rfl (by decide) rfl
theorem t61_14 : rn 61 14 (some (.ref a) :: l) r M = rn 61 15 (some (.ref a) :: l) (.ref a :: r) M := r_aload_n (by decide +kernel : decode (mB 61) 14 = .ok (.aload_n 0, 1)) rfl
theorem t61_15 : rn 61 15 ls (.ref a :: r) M = if mK M a = (10, 0) then rn 61 18 ls (va_rf (mP M a 0) :: r) M else none := r_getP (ci := 0) (k := 0) (by decide +kernel : decode (mB 61) 15 = .ok (.getfield 10, 3)) (by decide +kernel) rfl
theorem t61_18 : rn 61 18 ls (.ref a :: r) M = if mK M a = (11, 0) then rn 61 21 ls (va_rf (mP M a 0) :: r) M else none := r_getP (ci := 1) (k := 0) (by decide +kernel : decode (mB 61) 18 = .ok (.getfield 89, 3)) (by decide +kernel) rfl
theorem t61_21 : rn 61 21 ls (.ref a :: r) M = if mK M a = (12, 0) then rn 61 24 ls (va_rf (mP M a 5) :: r) M else none := r_getP (ci := 2) (k := 5) (by decide +kernel : decode (mB 61) 21 = .ok (.getfield 133, 3)) (by decide +kernel) rfl
theorem t61_24 : rn 61 24 (a0 :: some (.int x) :: l) r M = rn 61 25 (a0 :: some (.int x) :: l) (.int x :: r) M := r_iload_n (by decide +kernel : decode (mB 61) 24 = .ok (.iload_n 1, 1)) rfl
theorem t61_25 : rn 61 25 ls (.int x :: .ref a :: r) M = if (mK M a).1 = 2 ∧ inR x (mK M a).2 then rn 61 26 ls (.long (mJ M a x.toNatClampNeg) :: r) M else none := r_cnd (by decide +kernel : decode (mB 61) 25 = .ok (.laload, 1)) rfl rfl
theorem t61_26 : rn 61 26 ls r M = rn 61 32 ls r M := r_goto (o := 6) (by decide +kernel : decode (mB 61) 26 = .ok (.goto 6, 3)) (by decide)
theorem t61_29 : rn 61 29 ls r M = rn 61 32 ls (.long (-1) :: r) M := r_nx (by decide +kernel : decode (mB 61) 29 = .ok (.ldc2_w 140, 3)) rfl rfl
theorem t61_32 : rn 61 32 ls [.long u] M = some (some (.long u), M) := r_lreturn (by decide +kernel : decode (mB 61) 32 = .ok (.lreturn, 1)) rfl
-- 62 DR_ofFile(II)I
theorem t62_0 : rn 62 0 (some (.ref a) :: l) r M = rn 62 1 (some (.ref a) :: l) (.ref a :: r) M := r_aload_n (by decide +kernel : decode (mB 62) 0 = .ok (.aload_n 0, 1)) rfl
theorem t62_1 : rn 62 1 ls (.ref a :: r) M = if mK M a = (10, 0) then rn 62 4 ls (va_rf (mP M a 0) :: r) M else none := r_getP (ci := 0) (k := 0) (by decide +kernel : decode (mB 62) 1 = .ok (.getfield 10, 3)) (by decide +kernel) rfl
theorem t62_4 : rn 62 4 ls (.ref a :: r) M = if mK M a = (11, 0) then rn 62 7 ls (va_rf (mP M a 1) :: r) M else none := r_getP (ci := 1) (k := 1) (by decide +kernel : decode (mB 62) 4 = .ok (.getfield 73, 3)) (by decide +kernel) rfl
theorem t62_7 : rn 62 7 ls (.ref a :: r) M = if mK M a = (13, 0) then rn 62 10 ls (va_rf (mP M a 6) :: r) M else none := r_getP (ci := 3) (k := 6) (by decide +kernel : decode (mB 62) 7 = .ok (.getfield 142, 3)) (by decide +kernel) rfl
theorem t62_10 : rn 62 10 (a0 :: a1 :: a2 :: a3 :: l) (.ref a :: r) M = rn 62 11 (a0 :: a1 :: a2 :: some (.ref a) :: l) r M := r_astore_n (by decide +kernel : decode (mB 62) 10 = .ok (.astore_n 3, 1)) (Nat.le_add_left 4 l.length)
theorem t62_11 : rn 62 11 (a0 :: some (.int x) :: l) r M = rn 62 12 (a0 :: some (.int x) :: l) (.int x :: r) M := r_iload_n (by decide +kernel : decode (mB 62) 11 = .ok (.iload_n 1, 1)) rfl
theorem t62_12 : rn 62 12 ls [.int x] M = cbn (cl 19 [.int x] M) 62 15 ls [] := r_callS (kd := 2) (by decide +kernel : decode (mB 62) 12 = .ok (.invokestatic 145, 3)) (by decide +kernel) (by decide +kernel) ((doS_n np_19).trans rfl)
theorem t62_15 : rn 62 15 ls (.int x :: r) M = if ¬ x = 0 then rn 62 20 ls r M else rn 62 18 ls r M := r_if (o := 5) (r := r) (c := ¬ x = 0) (by decide +kernel : decode (mB 62) 15 = .ok (.ifCond .ne 5, 3)) rfl (by decide) rfl
theorem t62_18 : rn 62 18 ls r M = rn 62 19 ls (.int (-1) :: r) M := r_nx (by decide +kernel : decode (mB 62) 18 = .ok (.iconst (-1), 1)) rfl rfl
theorem t62_19 : rn 62 19 ls [.int x] M = some (some (.int x), M) := r_ireturn (by decide +kernel : decode (mB 62) 19 = .ok (.ireturn, 1)) rfl
theorem t62_20 : rn 62 20 (a0 :: a1 :: some (.int x) :: l) r M = rn 62 21 (a0 :: a1 :: some (.int x) :: l) (.int x :: r) M := r_iload_n (by decide +kernel : decode (mB 62) 20 = .ok (.iload_n 2, 1)) rfl
theorem t62_21 : rn 62 21 ls (.int x :: r) M = if x = 0 then rn 62 60 ls r M else if x = 1 then rn 62 74 ls r M else if x = 2 then rn 62 81 ls r M else if x = 3 then rn 62 88 ls r M else if x = 4 then rn 62 94 ls r M else if x = 5 then rn 62 100 ls r M else rn 62 106 ls r M := by
  have D := (by decide +kernel : decode (mB 62) 21 = .ok (.tableswitch 85 0 5 #[39, 53, 60, 67, 73, 79], 39))
  by_cases h0 : x = 0
  · rw [h0, r_tab D]; rfl
  by_cases h1 : x = 1
  · rw [h1, r_tab D]; rfl
  by_cases h2 : x = 2
  · rw [h2, r_tab D]; rfl
  by_cases h3 : x = 3
  · rw [h3, r_tab D]; rfl
  by_cases h4 : x = 4
  · rw [h4, r_tab D]; rfl
  by_cases h5 : x = 5
  · rw [h5, r_tab D]; rfl
  rw [r_tabO D (by have e0 : x.toInt ≠ 0 := ti_ne h0; have e1 : x.toInt ≠ 1 := ti_ne h1; have e2 : x.toInt ≠ 2 := ti_ne h2; have e3 : x.toInt ≠ 3 := ti_ne h3; have e4 : x.toInt ≠ 4 := ti_ne h4; have e5 : x.toInt ≠ 5 := ti_ne h5; omega) (by decide), if_neg h0, if_neg h1, if_neg h2, if_neg h3, if_neg h4, if_neg h5]
  rfl
theorem t62_60 : rn 62 60 (a0 :: a1 :: a2 :: some (.ref a) :: l) r M = rn 62 61 (a0 :: a1 :: a2 :: some (.ref a) :: l) (.ref a :: r) M := r_aload_n (by decide +kernel : decode (mB 62) 60 = .ok (.aload_n 3, 1)) rfl
theorem t62_61 : rn 62 61 (a0 :: some (.int x) :: l) r M = rn 62 62 (a0 :: some (.int x) :: l) (.int x :: r) M := r_iload_n (by decide +kernel : decode (mB 62) 61 = .ok (.iload_n 1, 1)) rfl
theorem t62_62 : rn 62 62 ls [.int x, .ref a] M = if mK M a = (14, 0) then cbn (cl 52 [.ref a, .int x] M) 62 65 ls [] else none := r_callV (kd := 0) (by decide +kernel : decode (mB 62) 62 = .ok (.invokevirtual 148, 3)) (by decide +kernel) ((doV_n np_52).trans rfl)
theorem t62_65 : rn 62 65 ls (.int x :: r) M = if x = 0 then rn 62 72 ls r M else rn 62 68 ls r M := r_if (o := 7) (r := r) (c := x = 0) (by decide +kernel : decode (mB 62) 65 = .ok (.ifCond .eq 7, 3)) rfl (by decide) rfl
theorem t62_68 : rn 62 68 ls r M = rn 62 69 ls (.int 1 :: r) M := r_nx (by decide +kernel : decode (mB 62) 68 = .ok (.iconst 1, 1)) rfl rfl
theorem t62_69 : rn 62 69 ls r M = rn 62 73 ls r M := r_goto (o := 4) (by decide +kernel : decode (mB 62) 69 = .ok (.goto 4, 3)) (by decide)
theorem t62_72 : rn 62 72 ls r M = rn 62 73 ls (.int 0 :: r) M := r_nx (by decide +kernel : decode (mB 62) 72 = .ok (.iconst 0, 1)) rfl rfl
theorem t62_73 : rn 62 73 ls [.int x] M = some (some (.int x), M) := r_ireturn (by decide +kernel : decode (mB 62) 73 = .ok (.ireturn, 1)) rfl
theorem t62_74 : rn 62 74 (a0 :: a1 :: a2 :: some (.ref a) :: l) r M = rn 62 75 (a0 :: a1 :: a2 :: some (.ref a) :: l) (.ref a :: r) M := r_aload_n (by decide +kernel : decode (mB 62) 74 = .ok (.aload_n 3, 1)) rfl
theorem t62_75 : rn 62 75 ls (.ref a :: r) M = if mK M a = (14, 0) then rn 62 78 ls (va_rf (mP M a 0) :: r) M else none := r_getP (ci := 4) (k := 0) (by decide +kernel : decode (mB 62) 75 = .ok (.getfield 149, 3)) (by decide +kernel) rfl
theorem t62_78 : rn 62 78 (a0 :: some (.int x) :: l) r M = rn 62 79 (a0 :: some (.int x) :: l) (.int x :: r) M := r_iload_n (by decide +kernel : decode (mB 62) 78 = .ok (.iload_n 1, 1)) rfl
theorem t62_79 : rn 62 79 ls (.int x :: .ref a :: r) M = if ((mK M a).1 = 1 ∨ (mK M a).1 = 5) ∧ inR x (mK M a).2 then rn 62 80 ls (.int (mI M a x.toNatClampNeg) :: r) M else none := r_cnd (by decide +kernel : decode (mB 62) 79 = .ok (.iaload, 1)) rfl rfl
theorem t62_80 : rn 62 80 ls [.int x] M = some (some (.int x), M) := r_ireturn (by decide +kernel : decode (mB 62) 80 = .ok (.ireturn, 1)) rfl
theorem t62_81 : rn 62 81 (a0 :: a1 :: a2 :: some (.ref a) :: l) r M = rn 62 82 (a0 :: a1 :: a2 :: some (.ref a) :: l) (.ref a :: r) M := r_aload_n (by decide +kernel : decode (mB 62) 81 = .ok (.aload_n 3, 1)) rfl
theorem t62_82 : rn 62 82 ls (.ref a :: r) M = if mK M a = (14, 0) then rn 62 85 ls (va_rf (mP M a 1) :: r) M else none := r_getP (ci := 4) (k := 1) (by decide +kernel : decode (mB 62) 82 = .ok (.getfield 152, 3)) (by decide +kernel) rfl
theorem t62_85 : rn 62 85 (a0 :: some (.int x) :: l) r M = rn 62 86 (a0 :: some (.int x) :: l) (.int x :: r) M := r_iload_n (by decide +kernel : decode (mB 62) 85 = .ok (.iload_n 1, 1)) rfl
theorem t62_86 : rn 62 86 ls (.int x :: .ref a :: r) M = if ((mK M a).1 = 1 ∨ (mK M a).1 = 5) ∧ inR x (mK M a).2 then rn 62 87 ls (.int (mI M a x.toNatClampNeg) :: r) M else none := r_cnd (by decide +kernel : decode (mB 62) 86 = .ok (.iaload, 1)) rfl rfl
theorem t62_87 : rn 62 87 ls [.int x] M = some (some (.int x), M) := r_ireturn (by decide +kernel : decode (mB 62) 87 = .ok (.ireturn, 1)) rfl
theorem t62_88 : rn 62 88 (a0 :: a1 :: a2 :: some (.ref a) :: l) r M = rn 62 89 (a0 :: a1 :: a2 :: some (.ref a) :: l) (.ref a :: r) M := r_aload_n (by decide +kernel : decode (mB 62) 88 = .ok (.aload_n 3, 1)) rfl
theorem t62_89 : rn 62 89 (a0 :: some (.int x) :: l) r M = rn 62 90 (a0 :: some (.int x) :: l) (.int x :: r) M := r_iload_n (by decide +kernel : decode (mB 62) 89 = .ok (.iload_n 1, 1)) rfl
theorem t62_90 : rn 62 90 ls [.int x, .ref a] M = if mK M a = (14, 0) then cbn (cl 54 [.ref a, .int x] M) 62 93 ls [] else none := r_callV (kd := 0) (by decide +kernel : decode (mB 62) 90 = .ok (.invokevirtual 155, 3)) (by decide +kernel) ((doV_n np_54).trans rfl)
theorem t62_93 : rn 62 93 ls [.int x] M = some (some (.int x), M) := r_ireturn (by decide +kernel : decode (mB 62) 93 = .ok (.ireturn, 1)) rfl
theorem t62_94 : rn 62 94 (a0 :: a1 :: a2 :: some (.ref a) :: l) r M = rn 62 95 (a0 :: a1 :: a2 :: some (.ref a) :: l) (.ref a :: r) M := r_aload_n (by decide +kernel : decode (mB 62) 94 = .ok (.aload_n 3, 1)) rfl
theorem t62_95 : rn 62 95 (a0 :: some (.int x) :: l) r M = rn 62 96 (a0 :: some (.int x) :: l) (.int x :: r) M := r_iload_n (by decide +kernel : decode (mB 62) 95 = .ok (.iload_n 1, 1)) rfl
theorem t62_96 : rn 62 96 ls [.int x, .ref a] M = if mK M a = (14, 0) then cbn (cl 63 [.ref a, .int x] M) 62 99 ls [] else none := r_callV (kd := 0) (by decide +kernel : decode (mB 62) 96 = .ok (.invokevirtual 158, 3)) (by decide +kernel) ((doV_n np_63).trans rfl)
theorem t62_99 : rn 62 99 ls [.int x] M = some (some (.int x), M) := r_ireturn (by decide +kernel : decode (mB 62) 99 = .ok (.ireturn, 1)) rfl
theorem t62_100 : rn 62 100 (a0 :: a1 :: a2 :: some (.ref a) :: l) r M = rn 62 101 (a0 :: a1 :: a2 :: some (.ref a) :: l) (.ref a :: r) M := r_aload_n (by decide +kernel : decode (mB 62) 100 = .ok (.aload_n 3, 1)) rfl
theorem t62_101 : rn 62 101 (a0 :: some (.int x) :: l) r M = rn 62 102 (a0 :: some (.int x) :: l) (.int x :: r) M := r_iload_n (by decide +kernel : decode (mB 62) 101 = .ok (.iload_n 1, 1)) rfl
theorem t62_102 : rn 62 102 ls [.int x, .ref a] M = if mK M a = (14, 0) then cbn (cl 64 [.ref a, .int x] M) 62 105 ls [] else none := r_callV (kd := 0) (by decide +kernel : decode (mB 62) 102 = .ok (.invokevirtual 161, 3)) (by decide +kernel) ((doV_n np_64).trans rfl)
theorem t62_105 : rn 62 105 ls [.int x] M = some (some (.int x), M) := r_ireturn (by decide +kernel : decode (mB 62) 105 = .ok (.ireturn, 1)) rfl
theorem t62_106 : rn 62 106 ls r M = rn 62 108 ls (.int (-2) :: r) M := r_nx (by decide +kernel : decode (mB 62) 106 = .ok (.bipush (-2), 2)) rfl rfl
theorem t62_108 : rn 62 108 ls [.int x] M = some (some (.int x), M) := r_ireturn (by decide +kernel : decode (mB 62) 108 = .ok (.ireturn, 1)) rfl
-- 65 DR_count(I)I
theorem t65_0 : rn 65 0 (a0 :: some (.int x) :: l) r M = rn 65 1 (a0 :: some (.int x) :: l) (.int x :: r) M := r_iload_n (by decide +kernel : decode (mB 65) 0 = .ok (.iload_n 1, 1)) rfl
theorem t65_1 : rn 65 1 ls (.int x :: r) M = if x = 0 then rn 65 56 ls r M else if x = 1 then rn 65 67 ls r M else if x = 2 then rn 65 81 ls r M else if x = 3 then rn 65 95 ls r M else if x = 4 then rn 65 109 ls r M else if x = 5 then rn 65 123 ls r M else if x = 6 then rn 65 134 ls r M else if x = 7 then rn 65 148 ls r M else if x = 8 then rn 65 159 ls r M else if x = 9 then rn 65 170 ls r M else rn 65 178 ls r M := by
  have D := (by decide +kernel : decode (mB 65) 1 = .ok (.tableswitch 177 0 9 #[55, 66, 80, 94, 108, 122, 133, 147, 158, 169], 55))
  by_cases h0 : x = 0
  · rw [h0, r_tab D]; rfl
  by_cases h1 : x = 1
  · rw [h1, r_tab D]; rfl
  by_cases h2 : x = 2
  · rw [h2, r_tab D]; rfl
  by_cases h3 : x = 3
  · rw [h3, r_tab D]; rfl
  by_cases h4 : x = 4
  · rw [h4, r_tab D]; rfl
  by_cases h5 : x = 5
  · rw [h5, r_tab D]; rfl
  by_cases h6 : x = 6
  · rw [h6, r_tab D]; rfl
  by_cases h7 : x = 7
  · rw [h7, r_tab D]; rfl
  by_cases h8 : x = 8
  · rw [h8, r_tab D]; rfl
  by_cases h9 : x = 9
  · rw [h9, r_tab D]; rfl
  rw [r_tabO D (by have e0 : x.toInt ≠ 0 := ti_ne h0; have e1 : x.toInt ≠ 1 := ti_ne h1; have e2 : x.toInt ≠ 2 := ti_ne h2; have e3 : x.toInt ≠ 3 := ti_ne h3; have e4 : x.toInt ≠ 4 := ti_ne h4; have e5 : x.toInt ≠ 5 := ti_ne h5; have e6 : x.toInt ≠ 6 := ti_ne h6; have e7 : x.toInt ≠ 7 := ti_ne h7; have e8 : x.toInt ≠ 8 := ti_ne h8; have e9 : x.toInt ≠ 9 := ti_ne h9; omega) (by decide), if_neg h0, if_neg h1, if_neg h2, if_neg h3, if_neg h4, if_neg h5, if_neg h6, if_neg h7, if_neg h8, if_neg h9]
  rfl
theorem t65_56 : rn 65 56 (some (.ref a) :: l) r M = rn 65 57 (some (.ref a) :: l) (.ref a :: r) M := r_aload_n (by decide +kernel : decode (mB 65) 56 = .ok (.aload_n 0, 1)) rfl
theorem t65_57 : rn 65 57 ls (.ref a :: r) M = if mK M a = (10, 0) then rn 65 60 ls (va_rf (mP M a 0) :: r) M else none := r_getP (ci := 0) (k := 0) (by decide +kernel : decode (mB 65) 57 = .ok (.getfield 10, 3)) (by decide +kernel) rfl
theorem t65_60 : rn 65 60 ls (.ref a :: r) M = if mK M a = (11, 0) then rn 65 63 ls (va_rf (mP M a 0) :: r) M else none := r_getP (ci := 1) (k := 0) (by decide +kernel : decode (mB 65) 60 = .ok (.getfield 89, 3)) (by decide +kernel) rfl
theorem t65_63 : rn 65 63 ls (.ref a :: r) M = if mK M a = (12, 0) then rn 65 66 ls (.int (mI M a 0) :: r) M else none := r_getI (ci := 2) (k := 0) (by decide +kernel : decode (mB 65) 63 = .ok (.getfield 164, 3)) (by decide +kernel) (Or.inl rfl)
theorem t65_66 : rn 65 66 ls [.int x] M = some (some (.int x), M) := r_ireturn (by decide +kernel : decode (mB 65) 66 = .ok (.ireturn, 1)) rfl
theorem t65_67 : rn 65 67 (some (.ref a) :: l) r M = rn 65 68 (some (.ref a) :: l) (.ref a :: r) M := r_aload_n (by decide +kernel : decode (mB 65) 67 = .ok (.aload_n 0, 1)) rfl
theorem t65_68 : rn 65 68 ls (.ref a :: r) M = if mK M a = (10, 0) then rn 65 71 ls (va_rf (mP M a 0) :: r) M else none := r_getP (ci := 0) (k := 0) (by decide +kernel : decode (mB 65) 68 = .ok (.getfield 10, 3)) (by decide +kernel) rfl
theorem t65_71 : rn 65 71 ls (.ref a :: r) M = if mK M a = (11, 0) then rn 65 74 ls (va_rf (mP M a 0) :: r) M else none := r_getP (ci := 1) (k := 0) (by decide +kernel : decode (mB 65) 71 = .ok (.getfield 89, 3)) (by decide +kernel) rfl
theorem t65_74 : rn 65 74 ls (.ref a :: r) M = if mK M a = (12, 0) then rn 65 77 ls (.long (mJ M a 1) :: r) M else none := r_getJ (ci := 2) (k := 1) (by decide +kernel : decode (mB 65) 74 = .ok (.getfield 116, 3)) (by decide +kernel) rfl
theorem t65_77 : rn 65 77 ls [.long u] M = cbn (cl 37 [.long u] M) 65 80 ls [] := r_callS (kd := 2) (by decide +kernel : decode (mB 65) 77 = .ok (.invokestatic 80, 3)) (by decide +kernel) (by decide +kernel) ((doS_n np_37).trans rfl)
theorem t65_80 : rn 65 80 ls [.int x] M = some (some (.int x), M) := r_ireturn (by decide +kernel : decode (mB 65) 80 = .ok (.ireturn, 1)) rfl
theorem t65_81 : rn 65 81 (some (.ref a) :: l) r M = rn 65 82 (some (.ref a) :: l) (.ref a :: r) M := r_aload_n (by decide +kernel : decode (mB 65) 81 = .ok (.aload_n 0, 1)) rfl
theorem t65_82 : rn 65 82 ls (.ref a :: r) M = if mK M a = (10, 0) then rn 65 85 ls (va_rf (mP M a 0) :: r) M else none := r_getP (ci := 0) (k := 0) (by decide +kernel : decode (mB 65) 82 = .ok (.getfield 10, 3)) (by decide +kernel) rfl
theorem t65_85 : rn 65 85 ls (.ref a :: r) M = if mK M a = (11, 0) then rn 65 88 ls (va_rf (mP M a 0) :: r) M else none := r_getP (ci := 1) (k := 0) (by decide +kernel : decode (mB 65) 85 = .ok (.getfield 89, 3)) (by decide +kernel) rfl
theorem t65_88 : rn 65 88 ls [.ref a] M = if mK M a = (12, 0) then cbn (cl 41 [.ref a] M) 65 91 ls [] else none := r_callV (kd := 0) (by decide +kernel : decode (mB 65) 88 = .ok (.invokevirtual 123, 3)) (by decide +kernel) ((doV_n np_41).trans rfl)
theorem t65_91 : rn 65 91 ls [.long u] M = cbn (cl 37 [.long u] M) 65 94 ls [] := r_callS (kd := 2) (by decide +kernel : decode (mB 65) 91 = .ok (.invokestatic 80, 3)) (by decide +kernel) (by decide +kernel) ((doS_n np_37).trans rfl)
theorem t65_94 : rn 65 94 ls [.int x] M = some (some (.int x), M) := r_ireturn (by decide +kernel : decode (mB 65) 94 = .ok (.ireturn, 1)) rfl
theorem t65_95 : rn 65 95 (some (.ref a) :: l) r M = rn 65 96 (some (.ref a) :: l) (.ref a :: r) M := r_aload_n (by decide +kernel : decode (mB 65) 95 = .ok (.aload_n 0, 1)) rfl
theorem t65_96 : rn 65 96 ls (.ref a :: r) M = if mK M a = (10, 0) then rn 65 99 ls (va_rf (mP M a 0) :: r) M else none := r_getP (ci := 0) (k := 0) (by decide +kernel : decode (mB 65) 96 = .ok (.getfield 10, 3)) (by decide +kernel) rfl
theorem t65_99 : rn 65 99 ls (.ref a :: r) M = if mK M a = (11, 0) then rn 65 102 ls (va_rf (mP M a 1) :: r) M else none := r_getP (ci := 1) (k := 1) (by decide +kernel : decode (mB 65) 99 = .ok (.getfield 73, 3)) (by decide +kernel) rfl
theorem t65_102 : rn 65 102 ls (.ref a :: r) M = if mK M a = (13, 0) then rn 65 105 ls (.long (mJ M a 0) :: r) M else none := r_getJ (ci := 3) (k := 0) (by decide +kernel : decode (mB 65) 102 = .ok (.getfield 76, 3)) (by decide +kernel) rfl
theorem t65_105 : rn 65 105 ls [.long u] M = cbn (cl 37 [.long u] M) 65 108 ls [] := r_callS (kd := 2) (by decide +kernel : decode (mB 65) 105 = .ok (.invokestatic 80, 3)) (by decide +kernel) (by decide +kernel) ((doS_n np_37).trans rfl)
theorem t65_108 : rn 65 108 ls [.int x] M = some (some (.int x), M) := r_ireturn (by decide +kernel : decode (mB 65) 108 = .ok (.ireturn, 1)) rfl
theorem t65_109 : rn 65 109 (some (.ref a) :: l) r M = rn 65 110 (some (.ref a) :: l) (.ref a :: r) M := r_aload_n (by decide +kernel : decode (mB 65) 109 = .ok (.aload_n 0, 1)) rfl
theorem t65_110 : rn 65 110 ls (.ref a :: r) M = if mK M a = (10, 0) then rn 65 113 ls (va_rf (mP M a 0) :: r) M else none := r_getP (ci := 0) (k := 0) (by decide +kernel : decode (mB 65) 110 = .ok (.getfield 10, 3)) (by decide +kernel) rfl
theorem t65_113 : rn 65 113 ls (.ref a :: r) M = if mK M a = (11, 0) then rn 65 116 ls (va_rf (mP M a 1) :: r) M else none := r_getP (ci := 1) (k := 1) (by decide +kernel : decode (mB 65) 113 = .ok (.getfield 73, 3)) (by decide +kernel) rfl
theorem t65_116 : rn 65 116 ls (.ref a :: r) M = if mK M a = (13, 0) then rn 65 119 ls (.long (mJ M a 1) :: r) M else none := r_getJ (ci := 3) (k := 1) (by decide +kernel : decode (mB 65) 116 = .ok (.getfield 168, 3)) (by decide +kernel) rfl
theorem t65_119 : rn 65 119 ls [.long u] M = cbn (cl 37 [.long u] M) 65 122 ls [] := r_callS (kd := 2) (by decide +kernel : decode (mB 65) 119 = .ok (.invokestatic 80, 3)) (by decide +kernel) (by decide +kernel) ((doS_n np_37).trans rfl)
theorem t65_122 : rn 65 122 ls [.int x] M = some (some (.int x), M) := r_ireturn (by decide +kernel : decode (mB 65) 122 = .ok (.ireturn, 1)) rfl
theorem t65_123 : rn 65 123 (some (.ref a) :: l) r M = rn 65 124 (some (.ref a) :: l) (.ref a :: r) M := r_aload_n (by decide +kernel : decode (mB 65) 123 = .ok (.aload_n 0, 1)) rfl
theorem t65_124 : rn 65 124 ls (.ref a :: r) M = if mK M a = (10, 0) then rn 65 127 ls (va_rf (mP M a 0) :: r) M else none := r_getP (ci := 0) (k := 0) (by decide +kernel : decode (mB 65) 124 = .ok (.getfield 10, 3)) (by decide +kernel) rfl
theorem t65_127 : rn 65 127 ls (.ref a :: r) M = if mK M a = (11, 0) then rn 65 130 ls (va_rf (mP M a 1) :: r) M else none := r_getP (ci := 1) (k := 1) (by decide +kernel : decode (mB 65) 127 = .ok (.getfield 73, 3)) (by decide +kernel) rfl
theorem t65_130 : rn 65 130 ls (.ref a :: r) M = if mK M a = (13, 0) then rn 65 133 ls (.int (mI M a 2) :: r) M else none := r_getI (ci := 3) (k := 2) (by decide +kernel : decode (mB 65) 130 = .ok (.getfield 171, 3)) (by decide +kernel) (Or.inl rfl)
theorem t65_133 : rn 65 133 ls [.int x] M = some (some (.int x), M) := r_ireturn (by decide +kernel : decode (mB 65) 133 = .ok (.ireturn, 1)) rfl
theorem t65_134 : rn 65 134 (some (.ref a) :: l) r M = rn 65 135 (some (.ref a) :: l) (.ref a :: r) M := r_aload_n (by decide +kernel : decode (mB 65) 134 = .ok (.aload_n 0, 1)) rfl
theorem t65_135 : rn 65 135 ls (.ref a :: r) M = if mK M a = (10, 0) then rn 65 138 ls (va_rf (mP M a 0) :: r) M else none := r_getP (ci := 0) (k := 0) (by decide +kernel : decode (mB 65) 135 = .ok (.getfield 10, 3)) (by decide +kernel) rfl
theorem t65_138 : rn 65 138 ls (.ref a :: r) M = if mK M a = (11, 0) then rn 65 141 ls (va_rf (mP M a 1) :: r) M else none := r_getP (ci := 1) (k := 1) (by decide +kernel : decode (mB 65) 138 = .ok (.getfield 73, 3)) (by decide +kernel) rfl
theorem t65_141 : rn 65 141 ls (.ref a :: r) M = if mK M a = (13, 0) then rn 65 144 ls (va_rf (mP M a 6) :: r) M else none := r_getP (ci := 3) (k := 6) (by decide +kernel : decode (mB 65) 141 = .ok (.getfield 142, 3)) (by decide +kernel) rfl
theorem t65_144 : rn 65 144 ls [.ref a] M = if mK M a = (14, 0) then cbn (cl 66 [.ref a] M) 65 147 ls [] else none := r_callV (kd := 0) (by decide +kernel : decode (mB 65) 144 = .ok (.invokevirtual 174, 3)) (by decide +kernel) ((doV_n np_66).trans rfl)
theorem t65_147 : rn 65 147 ls [.int x] M = some (some (.int x), M) := r_ireturn (by decide +kernel : decode (mB 65) 147 = .ok (.ireturn, 1)) rfl
theorem t65_148 : rn 65 148 (some (.ref a) :: l) r M = rn 65 149 (some (.ref a) :: l) (.ref a :: r) M := r_aload_n (by decide +kernel : decode (mB 65) 148 = .ok (.aload_n 0, 1)) rfl
theorem t65_149 : rn 65 149 ls (.ref a :: r) M = if mK M a = (10, 0) then rn 65 152 ls (va_rf (mP M a 0) :: r) M else none := r_getP (ci := 0) (k := 0) (by decide +kernel : decode (mB 65) 149 = .ok (.getfield 10, 3)) (by decide +kernel) rfl
theorem t65_152 : rn 65 152 ls (.ref a :: r) M = if mK M a = (11, 0) then rn 65 155 ls (va_rf (mP M a 1) :: r) M else none := r_getP (ci := 1) (k := 1) (by decide +kernel : decode (mB 65) 152 = .ok (.getfield 73, 3)) (by decide +kernel) rfl
theorem t65_155 : rn 65 155 ls (.ref a :: r) M = if mK M a = (13, 0) then rn 65 158 ls (.int (mI M a 3) :: r) M else none := r_getI (ci := 3) (k := 3) (by decide +kernel : decode (mB 65) 155 = .ok (.getfield 177, 3)) (by decide +kernel) (Or.inl rfl)
theorem t65_158 : rn 65 158 ls [.int x] M = some (some (.int x), M) := r_ireturn (by decide +kernel : decode (mB 65) 158 = .ok (.ireturn, 1)) rfl
theorem t65_159 : rn 65 159 (some (.ref a) :: l) r M = rn 65 160 (some (.ref a) :: l) (.ref a :: r) M := r_aload_n (by decide +kernel : decode (mB 65) 159 = .ok (.aload_n 0, 1)) rfl
theorem t65_160 : rn 65 160 ls (.ref a :: r) M = if mK M a = (10, 0) then rn 65 163 ls (va_rf (mP M a 3) :: r) M else none := r_getP (ci := 0) (k := 3) (by decide +kernel : decode (mB 65) 160 = .ok (.getfield 32, 3)) (by decide +kernel) rfl
theorem t65_163 : rn 65 163 ls (.ref a :: r) M = if mK M a = (16, 0) then rn 65 166 ls (va_rf (mP M a 0) :: r) M else none := r_getP (ci := 6) (k := 0) (by decide +kernel : decode (mB 65) 163 = .ok (.getfield 180, 3)) (by decide +kernel) rfl
theorem t65_166 : rn 65 166 ls (.ref a :: r) M = if mK M a = (17, 0) then rn 65 169 ls (.int (mI M a 1) :: r) M else none := r_getI (ci := 7) (k := 1) (by decide +kernel : decode (mB 65) 166 = .ok (.getfield 184, 3)) (by decide +kernel) (Or.inl rfl)
theorem t65_169 : rn 65 169 ls [.int x] M = some (some (.int x), M) := r_ireturn (by decide +kernel : decode (mB 65) 169 = .ok (.ireturn, 1)) rfl
theorem t65_170 : rn 65 170 (some (.ref a) :: l) r M = rn 65 171 (some (.ref a) :: l) (.ref a :: r) M := r_aload_n (by decide +kernel : decode (mB 65) 170 = .ok (.aload_n 0, 1)) rfl
theorem t65_171 : rn 65 171 ls (.ref a :: r) M = if mK M a = (10, 0) then rn 65 174 ls (va_rf (mP M a 1) :: r) M else none := r_getP (ci := 0) (k := 1) (by decide +kernel : decode (mB 65) 171 = .ok (.getfield 19, 3)) (by decide +kernel) rfl
theorem t65_174 : rn 65 174 ls (.ref a :: r) M = if mK M a = (15, 0) then rn 65 177 ls (.int (mI M a 2) :: r) M else none := r_getI (ci := 5) (k := 2) (by decide +kernel : decode (mB 65) 174 = .ok (.getfield 189, 3)) (by decide +kernel) (Or.inl rfl)
theorem t65_177 : rn 65 177 ls [.int x] M = some (some (.int x), M) := r_ireturn (by decide +kernel : decode (mB 65) 177 = .ok (.ireturn, 1)) rfl
theorem t65_178 : rn 65 178 ls r M = rn 65 180 ls (.int (-2) :: r) M := r_nx (by decide +kernel : decode (mB 65) 178 = .ok (.bipush (-2), 2)) rfl rfl
theorem t65_180 : rn 65 180 ls [.int x] M = some (some (.int x), M) := r_ireturn (by decide +kernel : decode (mB 65) 180 = .ok (.ireturn, 1)) rfl
-- 67 DR_set(I)J
theorem t67_0 : rn 67 0 (a0 :: some (.int x) :: l) r M = rn 67 1 (a0 :: some (.int x) :: l) (.int x :: r) M := r_iload_n (by decide +kernel : decode (mB 67) 0 = .ok (.iload_n 1, 1)) rfl
theorem t67_1 : rn 67 1 ls (.int x :: r) M = if x = 0 then rn 67 36 ls r M else if x = 1 then rn 67 47 ls r M else if x = 2 then rn 67 58 ls r M else if x = 3 then rn 67 69 ls r M else if x = 4 then rn 67 80 ls r M else rn 67 98 ls r M := by
  have D := (by decide +kernel : decode (mB 67) 1 = .ok (.tableswitch 97 0 4 #[35, 46, 57, 68, 79], 35))
  by_cases h0 : x = 0
  · rw [h0, r_tab D]; rfl
  by_cases h1 : x = 1
  · rw [h1, r_tab D]; rfl
  by_cases h2 : x = 2
  · rw [h2, r_tab D]; rfl
  by_cases h3 : x = 3
  · rw [h3, r_tab D]; rfl
  by_cases h4 : x = 4
  · rw [h4, r_tab D]; rfl
  rw [r_tabO D (by have e0 : x.toInt ≠ 0 := ti_ne h0; have e1 : x.toInt ≠ 1 := ti_ne h1; have e2 : x.toInt ≠ 2 := ti_ne h2; have e3 : x.toInt ≠ 3 := ti_ne h3; have e4 : x.toInt ≠ 4 := ti_ne h4; omega) (by decide), if_neg h0, if_neg h1, if_neg h2, if_neg h3, if_neg h4]
  rfl
theorem t67_36 : rn 67 36 (some (.ref a) :: l) r M = rn 67 37 (some (.ref a) :: l) (.ref a :: r) M := r_aload_n (by decide +kernel : decode (mB 67) 36 = .ok (.aload_n 0, 1)) rfl
theorem t67_37 : rn 67 37 ls (.ref a :: r) M = if mK M a = (10, 0) then rn 67 40 ls (va_rf (mP M a 0) :: r) M else none := r_getP (ci := 0) (k := 0) (by decide +kernel : decode (mB 67) 37 = .ok (.getfield 10, 3)) (by decide +kernel) rfl
theorem t67_40 : rn 67 40 ls (.ref a :: r) M = if mK M a = (11, 0) then rn 67 43 ls (va_rf (mP M a 0) :: r) M else none := r_getP (ci := 1) (k := 0) (by decide +kernel : decode (mB 67) 40 = .ok (.getfield 89, 3)) (by decide +kernel) rfl
theorem t67_43 : rn 67 43 ls (.ref a :: r) M = if mK M a = (12, 0) then rn 67 46 ls (.long (mJ M a 1) :: r) M else none := r_getJ (ci := 2) (k := 1) (by decide +kernel : decode (mB 67) 43 = .ok (.getfield 116, 3)) (by decide +kernel) rfl
theorem t67_46 : rn 67 46 ls [.long u] M = some (some (.long u), M) := r_lreturn (by decide +kernel : decode (mB 67) 46 = .ok (.lreturn, 1)) rfl
theorem t67_47 : rn 67 47 (some (.ref a) :: l) r M = rn 67 48 (some (.ref a) :: l) (.ref a :: r) M := r_aload_n (by decide +kernel : decode (mB 67) 47 = .ok (.aload_n 0, 1)) rfl
theorem t67_48 : rn 67 48 ls (.ref a :: r) M = if mK M a = (10, 0) then rn 67 51 ls (va_rf (mP M a 0) :: r) M else none := r_getP (ci := 0) (k := 0) (by decide +kernel : decode (mB 67) 48 = .ok (.getfield 10, 3)) (by decide +kernel) rfl
theorem t67_51 : rn 67 51 ls (.ref a :: r) M = if mK M a = (11, 0) then rn 67 54 ls (va_rf (mP M a 0) :: r) M else none := r_getP (ci := 1) (k := 0) (by decide +kernel : decode (mB 67) 51 = .ok (.getfield 89, 3)) (by decide +kernel) rfl
theorem t67_54 : rn 67 54 ls [.ref a] M = if mK M a = (12, 0) then cbn (cl 41 [.ref a] M) 67 57 ls [] else none := r_callV (kd := 0) (by decide +kernel : decode (mB 67) 54 = .ok (.invokevirtual 123, 3)) (by decide +kernel) ((doV_n np_41).trans rfl)
theorem t67_57 : rn 67 57 ls [.long u] M = some (some (.long u), M) := r_lreturn (by decide +kernel : decode (mB 67) 57 = .ok (.lreturn, 1)) rfl
theorem t67_58 : rn 67 58 (some (.ref a) :: l) r M = rn 67 59 (some (.ref a) :: l) (.ref a :: r) M := r_aload_n (by decide +kernel : decode (mB 67) 58 = .ok (.aload_n 0, 1)) rfl
theorem t67_59 : rn 67 59 ls (.ref a :: r) M = if mK M a = (10, 0) then rn 67 62 ls (va_rf (mP M a 0) :: r) M else none := r_getP (ci := 0) (k := 0) (by decide +kernel : decode (mB 67) 59 = .ok (.getfield 10, 3)) (by decide +kernel) rfl
theorem t67_62 : rn 67 62 ls (.ref a :: r) M = if mK M a = (11, 0) then rn 67 65 ls (va_rf (mP M a 1) :: r) M else none := r_getP (ci := 1) (k := 1) (by decide +kernel : decode (mB 67) 62 = .ok (.getfield 73, 3)) (by decide +kernel) rfl
theorem t67_65 : rn 67 65 ls (.ref a :: r) M = if mK M a = (13, 0) then rn 67 68 ls (.long (mJ M a 0) :: r) M else none := r_getJ (ci := 3) (k := 0) (by decide +kernel : decode (mB 67) 65 = .ok (.getfield 76, 3)) (by decide +kernel) rfl
theorem t67_68 : rn 67 68 ls [.long u] M = some (some (.long u), M) := r_lreturn (by decide +kernel : decode (mB 67) 68 = .ok (.lreturn, 1)) rfl
theorem t67_69 : rn 67 69 (some (.ref a) :: l) r M = rn 67 70 (some (.ref a) :: l) (.ref a :: r) M := r_aload_n (by decide +kernel : decode (mB 67) 69 = .ok (.aload_n 0, 1)) rfl
theorem t67_70 : rn 67 70 ls (.ref a :: r) M = if mK M a = (10, 0) then rn 67 73 ls (va_rf (mP M a 0) :: r) M else none := r_getP (ci := 0) (k := 0) (by decide +kernel : decode (mB 67) 70 = .ok (.getfield 10, 3)) (by decide +kernel) rfl
theorem t67_73 : rn 67 73 ls (.ref a :: r) M = if mK M a = (11, 0) then rn 67 76 ls (va_rf (mP M a 1) :: r) M else none := r_getP (ci := 1) (k := 1) (by decide +kernel : decode (mB 67) 73 = .ok (.getfield 73, 3)) (by decide +kernel) rfl
theorem t67_76 : rn 67 76 ls (.ref a :: r) M = if mK M a = (13, 0) then rn 67 79 ls (.long (mJ M a 1) :: r) M else none := r_getJ (ci := 3) (k := 1) (by decide +kernel : decode (mB 67) 76 = .ok (.getfield 168, 3)) (by decide +kernel) rfl
theorem t67_79 : rn 67 79 ls [.long u] M = some (some (.long u), M) := r_lreturn (by decide +kernel : decode (mB 67) 79 = .ok (.lreturn, 1)) rfl
theorem t67_80 : rn 67 80 (some (.ref a) :: l) r M = rn 67 81 (some (.ref a) :: l) (.ref a :: r) M := r_aload_n (by decide +kernel : decode (mB 67) 80 = .ok (.aload_n 0, 1)) rfl
theorem t67_81 : rn 67 81 ls (.ref a :: r) M = if mK M a = (10, 0) then rn 67 84 ls (va_rf (mP M a 0) :: r) M else none := r_getP (ci := 0) (k := 0) (by decide +kernel : decode (mB 67) 81 = .ok (.getfield 10, 3)) (by decide +kernel) rfl
theorem t67_84 : rn 67 84 ls (.ref a :: r) M = if mK M a = (11, 0) then rn 67 87 ls (va_rf (mP M a 1) :: r) M else none := r_getP (ci := 1) (k := 1) (by decide +kernel : decode (mB 67) 84 = .ok (.getfield 73, 3)) (by decide +kernel) rfl
theorem t67_87 : rn 67 87 (some (.ref a) :: l) r M = rn 67 88 (some (.ref a) :: l) (.ref a :: r) M := r_aload_n (by decide +kernel : decode (mB 67) 87 = .ok (.aload_n 0, 1)) rfl
theorem t67_88 : rn 67 88 ls (.ref a :: r) M = if mK M a = (10, 0) then rn 67 91 ls (va_rf (mP M a 0) :: r) M else none := r_getP (ci := 0) (k := 0) (by decide +kernel : decode (mB 67) 88 = .ok (.getfield 10, 3)) (by decide +kernel) rfl
theorem t67_91 : rn 67 91 ls (.ref a :: r) M = if mK M a = (11, 0) then rn 67 94 ls (va_rf (mP M a 0) :: r) M else none := r_getP (ci := 1) (k := 0) (by decide +kernel : decode (mB 67) 91 = .ok (.getfield 89, 3)) (by decide +kernel) rfl
theorem t67_94 : rn 67 94 ls [.ref a, .ref b] M = if mK M b = (13, 0) then cbn (cl 48 [.ref b, .ref a] M) 67 97 ls [] else none := r_callV (kd := 0) (by decide +kernel : decode (mB 67) 94 = .ok (.invokevirtual 192, 3)) (by decide +kernel) ((doV_n np_48).trans rfl)
theorem t67_97 : rn 67 97 ls [.long u] M = some (some (.long u), M) := r_lreturn (by decide +kernel : decode (mB 67) 97 = .ok (.lreturn, 1)) rfl
theorem t67_98 : rn 67 98 ls r M = rn 67 101 ls (.long (-2) :: r) M := r_nx (by decide +kernel : decode (mB 67) 98 = .ok (.ldc2_w 196, 3)) rfl rfl
theorem t67_101 : rn 67 101 ls [.long u] M = some (some (.long u), M) := r_lreturn (by decide +kernel : decode (mB 67) 101 = .ok (.lreturn, 1)) rfl
-- 68 DR_depth(I)I
theorem t68_0 : rn 68 0 (some (.ref a) :: l) r M = rn 68 1 (some (.ref a) :: l) (.ref a :: r) M := r_aload_n (by decide +kernel : decode (mB 68) 0 = .ok (.aload_n 0, 1)) rfl
theorem t68_1 : rn 68 1 ls (.ref a :: r) M = if mK M a = (10, 0) then rn 68 4 ls (va_rf (mP M a 0) :: r) M else none := r_getP (ci := 0) (k := 0) (by decide +kernel : decode (mB 68) 1 = .ok (.getfield 10, 3)) (by decide +kernel) rfl
theorem t68_4 : rn 68 4 ls (.ref a :: r) M = if mK M a = (11, 0) then rn 68 7 ls (va_rf (mP M a 0) :: r) M else none := r_getP (ci := 1) (k := 0) (by decide +kernel : decode (mB 68) 4 = .ok (.getfield 89, 3)) (by decide +kernel) rfl
theorem t68_7 : rn 68 7 (a0 :: some (.int x) :: l) r M = rn 68 8 (a0 :: some (.int x) :: l) (.int x :: r) M := r_iload_n (by decide +kernel : decode (mB 68) 7 = .ok (.iload_n 1, 1)) rfl
theorem t68_8 : rn 68 8 ls [.int x, .ref a] M = if mK M a = (12, 0) then cbn (cl 36 [.ref a, .int x] M) 68 11 ls [] else none := r_callV (kd := 0) (by decide +kernel : decode (mB 68) 8 = .ok (.invokevirtual 100, 3)) (by decide +kernel) ((doV_n np_36).trans rfl)
theorem t68_11 : rn 68 11 ls (.int x :: r) M = if ¬ x = 0 then rn 68 16 ls r M else rn 68 14 ls r M := r_if (o := 5) (r := r) (c := ¬ x = 0) (by decide +kernel : decode (mB 68) 11 = .ok (.ifCond .ne 5, 3)) rfl (by decide) rfl
theorem t68_14 : rn 68 14 ls r M = rn 68 15 ls (.int (-1) :: r) M := r_nx (by decide +kernel : decode (mB 68) 14 = .ok (.iconst (-1), 1)) rfl rfl
theorem t68_15 : rn 68 15 ls [.int x] M = some (some (.int x), M) := r_ireturn (by decide +kernel : decode (mB 68) 15 = .ok (.ireturn, 1)) rfl
theorem t68_16 : rn 68 16 (some (.ref a) :: l) r M = rn 68 17 (some (.ref a) :: l) (.ref a :: r) M := r_aload_n (by decide +kernel : decode (mB 68) 16 = .ok (.aload_n 0, 1)) rfl
theorem t68_17 : rn 68 17 ls [.ref a] M = if mK M a = (10, 0) then cbn (cl 69 [.ref a] M) 68 20 ls [] else none := r_callV (kd := 0) (by decide +kernel : decode (mB 68) 17 = .ok (.invokevirtual 198, 3)) (by decide +kernel) ((doV_n np_69).trans rfl)
theorem t68_20 : rn 68 20 (some (.ref a) :: l) r M = rn 68 21 (some (.ref a) :: l) (.ref a :: r) M := r_aload_n (by decide +kernel : decode (mB 68) 20 = .ok (.aload_n 0, 1)) rfl
theorem t68_21 : rn 68 21 ls (.ref a :: r) M = if mK M a = (10, 0) then rn 68 24 ls (va_rf (mP M a 4) :: r) M else none := r_getP (ci := 0) (k := 4) (by decide +kernel : decode (mB 68) 21 = .ok (.getfield 39, 3)) (by decide +kernel) rfl
theorem t68_24 : rn 68 24 ls (.ref a :: r) M = if mK M a = (13, 0) then rn 68 27 ls (va_rf (mP M a 4) :: r) M else none := r_getP (ci := 3) (k := 4) (by decide +kernel : decode (mB 68) 24 = .ok (.getfield 127, 3)) (by decide +kernel) rfl
theorem t68_27 : rn 68 27 (a0 :: some (.int x) :: l) r M = rn 68 28 (a0 :: some (.int x) :: l) (.int x :: r) M := r_iload_n (by decide +kernel : decode (mB 68) 27 = .ok (.iload_n 1, 1)) rfl
theorem t68_28 : rn 68 28 ls (.int x :: .ref a :: r) M = if ((mK M a).1 = 1 ∨ (mK M a).1 = 5) ∧ inR x (mK M a).2 then rn 68 29 ls (.int (mI M a x.toNatClampNeg) :: r) M else none := r_cnd (by decide +kernel : decode (mB 68) 28 = .ok (.iaload, 1)) rfl rfl
theorem t68_29 : rn 68 29 ls [.int x] M = some (some (.int x), M) := r_ireturn (by decide +kernel : decode (mB 68) 29 = .ok (.ireturn, 1)) rfl
-- 69 DR_tryReplay()V
theorem t69_0 : rn 69 0 (some (.ref a) :: l) r M = rn 69 1 (some (.ref a) :: l) (.ref a :: r) M := r_aload_n (by decide +kernel : decode (mB 69) 0 = .ok (.aload_n 0, 1)) rfl
theorem t69_1 : rn 69 1 ls (.ref a :: r) M = if mK M a = (10, 0) then rn 69 4 ls (va_rf (mP M a 4) :: r) M else none := r_getP (ci := 0) (k := 4) (by decide +kernel : decode (mB 69) 1 = .ok (.getfield 39, 3)) (by decide +kernel) rfl
theorem t69_4 : rn 69 4 ls [.ref a] M = if mK M a = (13, 0) then cbn (cl 7 [.ref a] M) 69 7 ls [] else none := r_callV (kd := 0) (by decide +kernel : decode (mB 69) 4 = .ok (.invokevirtual 86, 3)) (by decide +kernel) ((doV_n np_7).trans rfl)
theorem t69_7 : rn 69 7 (some (.ref a) :: l) r M = rn 69 8 (some (.ref a) :: l) (.ref a :: r) M := r_aload_n (by decide +kernel : decode (mB 69) 7 = .ok (.aload_n 0, 1)) rfl
theorem t69_8 : rn 69 8 ls (.ref a :: r) M = if mK M a = (10, 0) then rn 69 11 ls (va_rf (mP M a 4) :: r) M else none := r_getP (ci := 0) (k := 4) (by decide +kernel : decode (mB 69) 8 = .ok (.getfield 39, 3)) (by decide +kernel) rfl
theorem t69_11 : rn 69 11 (some (.ref a) :: l) r M = rn 69 12 (some (.ref a) :: l) (.ref a :: r) M := r_aload_n (by decide +kernel : decode (mB 69) 11 = .ok (.aload_n 0, 1)) rfl
theorem t69_12 : rn 69 12 ls (.ref a :: r) M = if mK M a = (10, 0) then rn 69 15 ls (va_rf (mP M a 0) :: r) M else none := r_getP (ci := 0) (k := 0) (by decide +kernel : decode (mB 69) 12 = .ok (.getfield 10, 3)) (by decide +kernel) rfl
theorem t69_15 : rn 69 15 ls (.ref a :: r) M = if mK M a = (11, 0) then rn 69 18 ls (va_rf (mP M a 0) :: r) M else none := r_getP (ci := 1) (k := 0) (by decide +kernel : decode (mB 69) 15 = .ok (.getfield 89, 3)) (by decide +kernel) rfl
theorem t69_18 : rn 69 18 ls [.ref a, .ref b] M = if mK M b = (13, 0) then cbn (cl 58 [.ref b, .ref a] M) 69 21 ls [] else none := r_callV (kd := 0) (by decide +kernel : decode (mB 69) 18 = .ok (.invokevirtual 97, 3)) (by decide +kernel) ((doV_n np_58).trans rfl)
theorem t69_21 : rn 69 21 ls (.int x :: r) M = rn 69 22 ls r M := r_nx (by decide +kernel : decode (mB 69) 21 = .ok (.pop, 1)) rfl rfl
theorem t69_22 : rn 69 22 ls [] M = some (none, M) := r_vreturn (by decide +kernel : decode (mB 69) 22 = .ok (.return_, 1)) rfl
-- 70 DR_wants(I)J
theorem t70_0 : rn 70 0 (some (.ref a) :: l) r M = rn 70 1 (some (.ref a) :: l) (.ref a :: r) M := r_aload_n (by decide +kernel : decode (mB 70) 0 = .ok (.aload_n 0, 1)) rfl
theorem t70_1 : rn 70 1 ls (.ref a :: r) M = if mK M a = (10, 0) then rn 70 4 ls (va_rf (mP M a 0) :: r) M else none := r_getP (ci := 0) (k := 0) (by decide +kernel : decode (mB 70) 1 = .ok (.getfield 10, 3)) (by decide +kernel) rfl
theorem t70_4 : rn 70 4 ls (.ref a :: r) M = if mK M a = (11, 0) then rn 70 7 ls (va_rf (mP M a 0) :: r) M else none := r_getP (ci := 1) (k := 0) (by decide +kernel : decode (mB 70) 4 = .ok (.getfield 89, 3)) (by decide +kernel) rfl
theorem t70_7 : rn 70 7 (a0 :: some (.int x) :: l) r M = rn 70 8 (a0 :: some (.int x) :: l) (.int x :: r) M := r_iload_n (by decide +kernel : decode (mB 70) 7 = .ok (.iload_n 1, 1)) rfl
theorem t70_8 : rn 70 8 ls [.int x, .ref a] M = if mK M a = (12, 0) then cbn (cl 36 [.ref a, .int x] M) 70 11 ls [] else none := r_callV (kd := 0) (by decide +kernel : decode (mB 70) 8 = .ok (.invokevirtual 100, 3)) (by decide +kernel) ((doV_n np_36).trans rfl)
theorem t70_11 : rn 70 11 ls (.int x :: r) M = if ¬ x = 0 then rn 70 18 ls r M else rn 70 14 ls r M := r_if (o := 7) (r := r) (c := ¬ x = 0) (by decide +kernel : decode (mB 70) 11 = .ok (.ifCond .ne 7, 3)) rfl (by decide) rfl
theorem t70_14 : rn 70 14 ls r M = rn 70 17 ls (.long (-1) :: r) M := r_nx (by decide +kernel : decode (mB 70) 14 = .ok (.ldc2_w 140, 3)) rfl rfl
theorem t70_17 : rn 70 17 ls [.long u] M = some (some (.long u), M) := r_lreturn (by decide +kernel : decode (mB 70) 17 = .ok (.lreturn, 1)) rfl
theorem t70_18 : rn 70 18 (some (.ref a) :: l) r M = rn 70 19 (some (.ref a) :: l) (.ref a :: r) M := r_aload_n (by decide +kernel : decode (mB 70) 18 = .ok (.aload_n 0, 1)) rfl
theorem t70_19 : rn 70 19 ls (.ref a :: r) M = if mK M a = (10, 0) then rn 70 22 ls (va_rf (mP M a 0) :: r) M else none := r_getP (ci := 0) (k := 0) (by decide +kernel : decode (mB 70) 19 = .ok (.getfield 10, 3)) (by decide +kernel) rfl
theorem t70_22 : rn 70 22 ls (.ref a :: r) M = if mK M a = (11, 0) then rn 70 25 ls (va_rf (mP M a 0) :: r) M else none := r_getP (ci := 1) (k := 0) (by decide +kernel : decode (mB 70) 22 = .ok (.getfield 89, 3)) (by decide +kernel) rfl
theorem t70_25 : rn 70 25 ls (.ref a :: r) M = if mK M a = (12, 0) then rn 70 28 ls (va_rf (mP M a 6) :: r) M else none := r_getP (ci := 2) (k := 6) (by decide +kernel : decode (mB 70) 25 = .ok (.getfield 201, 3)) (by decide +kernel) rfl
theorem t70_28 : rn 70 28 (a0 :: some (.int x) :: l) r M = rn 70 29 (a0 :: some (.int x) :: l) (.int x :: r) M := r_iload_n (by decide +kernel : decode (mB 70) 28 = .ok (.iload_n 1, 1)) rfl
theorem t70_29 : rn 70 29 ls (.int x :: .ref a :: r) M = if (mK M a).1 = 2 ∧ inR x (mK M a).2 then rn 70 30 ls (.long (mJ M a x.toNatClampNeg) :: r) M else none := r_cnd (by decide +kernel : decode (mB 70) 29 = .ok (.laload, 1)) rfl rfl
theorem t70_30 : rn 70 30 (a0 :: some (.int x) :: l) r M = rn 70 31 (a0 :: some (.int x) :: l) (.int x :: r) M := r_iload_n (by decide +kernel : decode (mB 70) 30 = .ok (.iload_n 1, 1)) rfl
theorem t70_31 : rn 70 31 ls [.int x, .long u] M = cbn (cl 24 [.int x] M) 70 34 ls [.long u] := r_callS (kd := 2) (by decide +kernel : decode (mB 70) 31 = .ok (.invokestatic 204, 3)) (by decide +kernel) (by decide +kernel) ((doS_n np_24).trans rfl)
theorem t70_34 : rn 70 34 ls (.long v :: .long u :: r) M = rn 70 35 ls (.long (u ||| v) :: r) M := r_nx (by decide +kernel : decode (mB 70) 34 = .ok (.lor, 1)) rfl rfl
theorem t70_35 : rn 70 35 (some (.ref a) :: l) r M = rn 70 36 (some (.ref a) :: l) (.ref a :: r) M := r_aload_n (by decide +kernel : decode (mB 70) 35 = .ok (.aload_n 0, 1)) rfl
theorem t70_36 : rn 70 36 ls (.ref a :: r) M = if mK M a = (10, 0) then rn 70 39 ls (va_rf (mP M a 0) :: r) M else none := r_getP (ci := 0) (k := 0) (by decide +kernel : decode (mB 70) 36 = .ok (.getfield 10, 3)) (by decide +kernel) rfl
theorem t70_39 : rn 70 39 ls (.ref a :: r) M = if mK M a = (11, 0) then rn 70 42 ls (va_rf (mP M a 0) :: r) M else none := r_getP (ci := 1) (k := 0) (by decide +kernel : decode (mB 70) 39 = .ok (.getfield 89, 3)) (by decide +kernel) rfl
theorem t70_42 : rn 70 42 ls (.ref a :: r) M = if mK M a = (12, 0) then rn 70 45 ls (.long (mJ M a 1) :: r) M else none := r_getJ (ci := 2) (k := 1) (by decide +kernel : decode (mB 70) 42 = .ok (.getfield 116, 3)) (by decide +kernel) rfl
theorem t70_45 : rn 70 45 ls (.long v :: .long u :: r) M = rn 70 46 ls (.long (u &&& v) :: r) M := r_nx (by decide +kernel : decode (mB 70) 45 = .ok (.land, 1)) rfl rfl
theorem t70_46 : rn 70 46 ls [.long u] M = some (some (.long u), M) := r_lreturn (by decide +kernel : decode (mB 70) 46 = .ok (.lreturn, 1)) rfl
-- 71 DR_worst(I)I
theorem t71_0 : rn 71 0 (a0 :: some (.int x) :: l) r M = rn 71 1 (a0 :: some (.int x) :: l) (.int x :: r) M := r_iload_n (by decide +kernel : decode (mB 71) 0 = .ok (.iload_n 1, 1)) rfl
theorem t71_1 : rn 71 1 ls (.int x :: r) M = if x = 0 then rn 71 12 ls r M else rn 71 4 ls r M := r_if (o := 11) (r := r) (c := x = 0) (by decide +kernel : decode (mB 71) 1 = .ok (.ifCond .eq 11, 3)) rfl (by decide) rfl
theorem t71_4 : rn 71 4 (a0 :: some (.int x) :: l) r M = rn 71 5 (a0 :: some (.int x) :: l) (.int x :: r) M := r_iload_n (by decide +kernel : decode (mB 71) 4 = .ok (.iload_n 1, 1)) rfl
theorem t71_5 : rn 71 5 ls r M = rn 71 6 ls (.int 1 :: r) M := r_nx (by decide +kernel : decode (mB 71) 5 = .ok (.iconst 1, 1)) rfl rfl
theorem t71_6 : rn 71 6 ls (.int y :: .int x :: r) M = if x = y then rn 71 12 ls r M else rn 71 9 ls r M := r_if (o := 6) (r := r) (c := x = y) (by decide +kernel : decode (mB 71) 6 = .ok (.if_icmp .eq 6, 3)) rfl (by decide) rfl
theorem t71_9 : rn 71 9 ls r M = rn 71 11 ls (.int (-2) :: r) M := r_nx (by decide +kernel : decode (mB 71) 9 = .ok (.bipush (-2), 2)) rfl rfl
theorem t71_11 : rn 71 11 ls [.int x] M = some (some (.int x), M) := r_ireturn (by decide +kernel : decode (mB 71) 11 = .ok (.ireturn, 1)) rfl
theorem t71_12 : rn 71 12 ls r M = rn 71 14 ls (.int (-6) :: r) M := r_nx (by decide +kernel : decode (mB 71) 12 = .ok (.bipush (-6), 2)) rfl rfl
theorem t71_14 : rn 71 14 (a0 :: a1 :: a2 :: l) (.int x :: r) M = rn 71 15 (a0 :: a1 :: some (.int x) :: l) r M := r_istore_n (by decide +kernel : decode (mB 71) 14 = .ok (.istore_n 2, 1)) (Nat.le_add_left 3 l.length)
theorem t71_15 : rn 71 15 ls r M = rn 71 17 ls (.int (-6) :: r) M := r_nx (by decide +kernel : decode (mB 71) 15 = .ok (.bipush (-6), 2)) rfl rfl
theorem t71_17 : rn 71 17 (a0 :: a1 :: a2 :: a3 :: l) (.int x :: r) M = rn 71 18 (a0 :: a1 :: a2 :: some (.int x) :: l) r M := r_istore_n (by decide +kernel : decode (mB 71) 17 = .ok (.istore_n 3, 1)) (Nat.le_add_left 4 l.length)
theorem t71_18 : rn 71 18 ls r M = rn 71 19 ls (.int 0 :: r) M := r_nx (by decide +kernel : decode (mB 71) 18 = .ok (.iconst 0, 1)) rfl rfl
theorem t71_19 : rn 71 19 (a0 :: a1 :: a2 :: a3 :: a4 :: l) (.int x :: r) M = rn 71 21 (a0 :: a1 :: a2 :: a3 :: some (.int x) :: l) r M := r_istore (by decide +kernel : decode (mB 71) 19 = .ok (.istore 4, 2)) (Nat.le_add_left 5 l.length)
theorem t71_21 : rn 71 21 (a0 :: a1 :: a2 :: a3 :: some (.int x) :: l) r M = rn 71 23 (a0 :: a1 :: a2 :: a3 :: some (.int x) :: l) (.int x :: r) M := r_iload (by decide +kernel : decode (mB 71) 21 = .ok (.iload 4, 2)) rfl
theorem t71_23 : rn 71 23 (some (.ref a) :: l) r M = rn 71 24 (some (.ref a) :: l) (.ref a :: r) M := r_aload_n (by decide +kernel : decode (mB 71) 23 = .ok (.aload_n 0, 1)) rfl
theorem t71_24 : rn 71 24 ls (.ref a :: r) M = if mK M a = (10, 0) then rn 71 27 ls (va_rf (mP M a 0) :: r) M else none := r_getP (ci := 0) (k := 0) (by decide +kernel : decode (mB 71) 24 = .ok (.getfield 10, 3)) (by decide +kernel) rfl
theorem t71_27 : rn 71 27 ls (.ref a :: r) M = if mK M a = (11, 0) then rn 71 30 ls (va_rf (mP M a 0) :: r) M else none := r_getP (ci := 1) (k := 0) (by decide +kernel : decode (mB 71) 27 = .ok (.getfield 89, 3)) (by decide +kernel) rfl
theorem t71_30 : rn 71 30 ls (.ref a :: r) M = if mK M a = (12, 0) then rn 71 33 ls (.int (mI M a 0) :: r) M else none := r_getI (ci := 2) (k := 0) (by decide +kernel : decode (mB 71) 30 = .ok (.getfield 164, 3)) (by decide +kernel) (Or.inl rfl)
theorem t71_33 : rn 71 33 ls (.int y :: .int x :: r) M = if y ≤ x then rn 71 103 ls r M else rn 71 36 ls r M := r_if (o := 70) (r := r) (c := y ≤ x) (by decide +kernel : decode (mB 71) 33 = .ok (.if_icmp .ge 70, 3)) rfl (by decide) rfl
theorem t71_36 : rn 71 36 (some (.ref a) :: l) r M = rn 71 37 (some (.ref a) :: l) (.ref a :: r) M := r_aload_n (by decide +kernel : decode (mB 71) 36 = .ok (.aload_n 0, 1)) rfl
theorem t71_37 : rn 71 37 ls (.ref a :: r) M = if mK M a = (10, 0) then rn 71 40 ls (va_rf (mP M a 0) :: r) M else none := r_getP (ci := 0) (k := 0) (by decide +kernel : decode (mB 71) 37 = .ok (.getfield 10, 3)) (by decide +kernel) rfl
theorem t71_40 : rn 71 40 ls (.ref a :: r) M = if mK M a = (11, 0) then rn 71 43 ls (va_rf (mP M a 0) :: r) M else none := r_getP (ci := 1) (k := 0) (by decide +kernel : decode (mB 71) 40 = .ok (.getfield 89, 3)) (by decide +kernel) rfl
theorem t71_43 : rn 71 43 ls (.ref a :: r) M = if mK M a = (12, 0) then rn 71 46 ls (.long (mJ M a 1) :: r) M else none := r_getJ (ci := 2) (k := 1) (by decide +kernel : decode (mB 71) 43 = .ok (.getfield 116, 3)) (by decide +kernel) rfl
theorem t71_46 : rn 71 46 (a0 :: a1 :: a2 :: a3 :: some (.int x) :: l) r M = rn 71 48 (a0 :: a1 :: a2 :: a3 :: some (.int x) :: l) (.int x :: r) M := r_iload (by decide +kernel : decode (mB 71) 46 = .ok (.iload 4, 2)) rfl
theorem t71_48 : rn 71 48 ls [.int x, .long u] M = cbn (cl 27 [.long u, .int x] M) 71 51 ls [] := r_callS (kd := 2) (by decide +kernel : decode (mB 71) 48 = .ok (.invokestatic 119, 3)) (by decide +kernel) (by decide +kernel) ((doS_n np_27).trans rfl)
theorem t71_51 : rn 71 51 ls (.int x :: r) M = if ¬ x = 0 then rn 71 97 ls r M else rn 71 54 ls r M := r_if (o := 46) (r := r) (c := ¬ x = 0) (by decide +kernel : decode (mB 71) 51 = .ok (.ifCond .ne 46, 3)) rfl (by decide) rfl
theorem t71_54 : rn 71 54 (some (.ref a) :: l) r M = rn 71 55 (some (.ref a) :: l) (.ref a :: r) M := r_aload_n (by decide +kernel : decode (mB 71) 54 = .ok (.aload_n 0, 1)) rfl
theorem t71_55 : rn 71 55 ls (.ref a :: r) M = if mK M a = (10, 0) then rn 71 58 ls (va_rf (mP M a 0) :: r) M else none := r_getP (ci := 0) (k := 0) (by decide +kernel : decode (mB 71) 55 = .ok (.getfield 10, 3)) (by decide +kernel) rfl
theorem t71_58 : rn 71 58 ls (.ref a :: r) M = if mK M a = (11, 0) then rn 71 61 ls (va_rf (mP M a 0) :: r) M else none := r_getP (ci := 1) (k := 0) (by decide +kernel : decode (mB 71) 58 = .ok (.getfield 89, 3)) (by decide +kernel) rfl
theorem t71_61 : rn 71 61 (some (.ref a) :: l) r M = rn 71 62 (some (.ref a) :: l) (.ref a :: r) M := r_aload_n (by decide +kernel : decode (mB 71) 61 = .ok (.aload_n 0, 1)) rfl
theorem t71_62 : rn 71 62 ls (.ref a :: r) M = if mK M a = (10, 0) then rn 71 65 ls (va_rf (mP M a 0) :: r) M else none := r_getP (ci := 0) (k := 0) (by decide +kernel : decode (mB 71) 62 = .ok (.getfield 10, 3)) (by decide +kernel) rfl
theorem t71_65 : rn 71 65 ls (.ref a :: r) M = if mK M a = (11, 0) then rn 71 68 ls (va_rf (mP M a 0) :: r) M else none := r_getP (ci := 1) (k := 0) (by decide +kernel : decode (mB 71) 65 = .ok (.getfield 89, 3)) (by decide +kernel) rfl
theorem t71_68 : rn 71 68 ls (.ref a :: r) M = if mK M a = (12, 0) then rn 71 71 ls (.long (mJ M a 1) :: r) M else none := r_getJ (ci := 2) (k := 1) (by decide +kernel : decode (mB 71) 68 = .ok (.getfield 116, 3)) (by decide +kernel) rfl
theorem t71_71 : rn 71 71 (a0 :: a1 :: a2 :: a3 :: some (.int x) :: l) r M = rn 71 73 (a0 :: a1 :: a2 :: a3 :: some (.int x) :: l) (.int x :: r) M := r_iload (by decide +kernel : decode (mB 71) 71 = .ok (.iload 4, 2)) rfl
theorem t71_73 : rn 71 73 ls [.int x, .long u, .ref a] M = cbn (cl 24 [.int x] M) 71 76 ls [.long u, .ref a] := r_callS (kd := 2) (by decide +kernel : decode (mB 71) 73 = .ok (.invokestatic 204, 3)) (by decide +kernel) (by decide +kernel) ((doS_n np_24).trans rfl)
theorem t71_76 : rn 71 76 ls (.long v :: .long u :: r) M = rn 71 77 ls (.long (u ||| v) :: r) M := r_nx (by decide +kernel : decode (mB 71) 76 = .ok (.lor, 1)) rfl rfl
theorem t71_77 : rn 71 77 ls [.long u, .ref a] M = if mK M a = (12, 0) then cbn (cl 42 [.ref a, .long u] M) 71 80 ls [] else none := r_callV (kd := 0) (by decide +kernel : decode (mB 71) 77 = .ok (.invokevirtual 208, 3)) (by decide +kernel) ((doV_n np_42).trans rfl)
theorem t71_80 : rn 71 80 ls [.long u] M = cbn (cl 37 [.long u] M) 71 83 ls [] := r_callS (kd := 2) (by decide +kernel : decode (mB 71) 80 = .ok (.invokestatic 80, 3)) (by decide +kernel) (by decide +kernel) ((doS_n np_37).trans rfl)
theorem t71_83 : rn 71 83 (a0 :: a1 :: a2 :: a3 :: a4 :: a5 :: l) (.int x :: r) M = rn 71 85 (a0 :: a1 :: a2 :: a3 :: a4 :: some (.int x) :: l) r M := r_istore (by decide +kernel : decode (mB 71) 83 = .ok (.istore 5, 2)) (Nat.le_add_left 6 l.length)
theorem t71_85 : rn 71 85 (a0 :: a1 :: a2 :: a3 :: a4 :: some (.int x) :: l) r M = rn 71 87 (a0 :: a1 :: a2 :: a3 :: a4 :: some (.int x) :: l) (.int x :: r) M := r_iload (by decide +kernel : decode (mB 71) 85 = .ok (.iload 5, 2)) rfl
theorem t71_87 : rn 71 87 (a0 :: a1 :: a2 :: some (.int x) :: l) r M = rn 71 88 (a0 :: a1 :: a2 :: some (.int x) :: l) (.int x :: r) M := r_iload_n (by decide +kernel : decode (mB 71) 87 = .ok (.iload_n 3, 1)) rfl
theorem t71_88 : rn 71 88 ls (.int y :: .int x :: r) M = if x ≤ y then rn 71 97 ls r M else rn 71 91 ls r M := r_if (o := 9) (r := r) (c := x ≤ y) (by decide +kernel : decode (mB 71) 88 = .ok (.if_icmp .le 9, 3)) rfl (by decide) rfl
theorem t71_91 : rn 71 91 (a0 :: a1 :: a2 :: a3 :: some (.int x) :: l) r M = rn 71 93 (a0 :: a1 :: a2 :: a3 :: some (.int x) :: l) (.int x :: r) M := r_iload (by decide +kernel : decode (mB 71) 91 = .ok (.iload 4, 2)) rfl
theorem t71_93 : rn 71 93 (a0 :: a1 :: a2 :: l) (.int x :: r) M = rn 71 94 (a0 :: a1 :: some (.int x) :: l) r M := r_istore_n (by decide +kernel : decode (mB 71) 93 = .ok (.istore_n 2, 1)) (Nat.le_add_left 3 l.length)
theorem t71_94 : rn 71 94 (a0 :: a1 :: a2 :: a3 :: a4 :: some (.int x) :: l) r M = rn 71 96 (a0 :: a1 :: a2 :: a3 :: a4 :: some (.int x) :: l) (.int x :: r) M := r_iload (by decide +kernel : decode (mB 71) 94 = .ok (.iload 5, 2)) rfl
theorem t71_96 : rn 71 96 (a0 :: a1 :: a2 :: a3 :: l) (.int x :: r) M = rn 71 97 (a0 :: a1 :: a2 :: some (.int x) :: l) r M := r_istore_n (by decide +kernel : decode (mB 71) 96 = .ok (.istore_n 3, 1)) (Nat.le_add_left 4 l.length)
theorem t71_97 : rn 71 97 (a0 :: a1 :: a2 :: a3 :: some (.int x) :: l) r M = rn 71 100 (a0 :: a1 :: a2 :: a3 :: some (.int (x + 1)) :: l) r M := r_iinc (by decide +kernel : decode (mB 71) 97 = .ok (.iinc 4 1, 3)) rfl
theorem t71_100 : rn 71 100 ls r M = rn 71 21 ls r M := r_goto (o := (-79)) (by decide +kernel : decode (mB 71) 100 = .ok (.goto (-79), 3)) (by decide)
theorem t71_103 : rn 71 103 (a0 :: some (.int x) :: l) r M = rn 71 104 (a0 :: some (.int x) :: l) (.int x :: r) M := r_iload_n (by decide +kernel : decode (mB 71) 103 = .ok (.iload_n 1, 1)) rfl
theorem t71_104 : rn 71 104 ls (.int x :: r) M = if ¬ x = 0 then rn 71 111 ls r M else rn 71 107 ls r M := r_if (o := 7) (r := r) (c := ¬ x = 0) (by decide +kernel : decode (mB 71) 104 = .ok (.ifCond .ne 7, 3)) rfl (by decide) rfl
theorem t71_107 : rn 71 107 (a0 :: a1 :: some (.int x) :: l) r M = rn 71 108 (a0 :: a1 :: some (.int x) :: l) (.int x :: r) M := r_iload_n (by decide +kernel : decode (mB 71) 107 = .ok (.iload_n 2, 1)) rfl
theorem t71_108 : rn 71 108 ls r M = rn 71 112 ls r M := r_goto (o := 4) (by decide +kernel : decode (mB 71) 108 = .ok (.goto 4, 3)) (by decide)
theorem t71_111 : rn 71 111 (a0 :: a1 :: a2 :: some (.int x) :: l) r M = rn 71 112 (a0 :: a1 :: a2 :: some (.int x) :: l) (.int x :: r) M := r_iload_n (by decide +kernel : decode (mB 71) 111 = .ok (.iload_n 3, 1)) rfl
theorem t71_112 : rn 71 112 ls [.int x] M = some (some (.int x), M) := r_ireturn (by decide +kernel : decode (mB 71) 112 = .ok (.ireturn, 1)) rfl
-- 72 DR_unlike()I
theorem t72_0 : rn 72 0 (some (.ref a) :: l) r M = rn 72 1 (some (.ref a) :: l) (.ref a :: r) M := r_aload_n (by decide +kernel : decode (mB 72) 0 = .ok (.aload_n 0, 1)) rfl
theorem t72_1 : rn 72 1 ls [.ref a] M = if mK M a = (10, 0) then cbn (cl 69 [.ref a] M) 72 4 ls [] else none := r_callV (kd := 0) (by decide +kernel : decode (mB 72) 1 = .ok (.invokevirtual 198, 3)) (by decide +kernel) ((doV_n np_69).trans rfl)
theorem t72_4 : rn 72 4 (some (.ref a) :: l) r M = rn 72 5 (some (.ref a) :: l) (.ref a :: r) M := r_aload_n (by decide +kernel : decode (mB 72) 4 = .ok (.aload_n 0, 1)) rfl
theorem t72_5 : rn 72 5 ls (.ref a :: r) M = if mK M a = (10, 0) then rn 72 8 ls (va_rf (mP M a 0) :: r) M else none := r_getP (ci := 0) (k := 0) (by decide +kernel : decode (mB 72) 5 = .ok (.getfield 10, 3)) (by decide +kernel) rfl
theorem t72_8 : rn 72 8 ls (.ref a :: r) M = if mK M a = (11, 0) then rn 72 11 ls (va_rf (mP M a 0) :: r) M else none := r_getP (ci := 1) (k := 0) (by decide +kernel : decode (mB 72) 8 = .ok (.getfield 89, 3)) (by decide +kernel) rfl
theorem t72_11 : rn 72 11 (a0 :: a1 :: l) (.ref a :: r) M = rn 72 12 (a0 :: some (.ref a) :: l) r M := r_astore_n (by decide +kernel : decode (mB 72) 11 = .ok (.astore_n 1, 1)) (Nat.le_add_left 2 l.length)
theorem t72_12 : rn 72 12 (some (.ref a) :: l) r M = rn 72 13 (some (.ref a) :: l) (.ref a :: r) M := r_aload_n (by decide +kernel : decode (mB 72) 12 = .ok (.aload_n 0, 1)) rfl
theorem t72_13 : rn 72 13 ls (.ref a :: r) M = if mK M a = (10, 0) then rn 72 16 ls (va_rf (mP M a 5) :: r) M else none := r_getP (ci := 0) (k := 5) (by decide +kernel : decode (mB 72) 13 = .ok (.getfield 46, 3)) (by decide +kernel) rfl
theorem t72_16 : rn 72 16 ls [.ref a] M = if mK M a = (14, 0) then cbn (cl 5 [.ref a] M) 72 19 ls [] else none := r_callV (kd := 0) (by decide +kernel : decode (mB 72) 16 = .ok (.invokevirtual 212, 3)) (by decide +kernel) ((doV_n np_5).trans rfl)
theorem t72_19 : rn 72 19 ls r M = rn 72 20 ls (.int 0 :: r) M := r_nx (by decide +kernel : decode (mB 72) 19 = .ok (.iconst 0, 1)) rfl rfl
theorem t72_20 : rn 72 20 (a0 :: a1 :: a2 :: l) (.int x :: r) M = rn 72 21 (a0 :: a1 :: some (.int x) :: l) r M := r_istore_n (by decide +kernel : decode (mB 72) 20 = .ok (.istore_n 2, 1)) (Nat.le_add_left 3 l.length)
theorem t72_21 : rn 72 21 (a0 :: a1 :: some (.int x) :: l) r M = rn 72 22 (a0 :: a1 :: some (.int x) :: l) (.int x :: r) M := r_iload_n (by decide +kernel : decode (mB 72) 21 = .ok (.iload_n 2, 1)) rfl
theorem t72_22 : rn 72 22 (a0 :: some (.ref a) :: l) r M = rn 72 23 (a0 :: some (.ref a) :: l) (.ref a :: r) M := r_aload_n (by decide +kernel : decode (mB 72) 22 = .ok (.aload_n 1, 1)) rfl
theorem t72_23 : rn 72 23 ls (.ref a :: r) M = if mK M a = (12, 0) then rn 72 26 ls (.int (mI M a 0) :: r) M else none := r_getI (ci := 2) (k := 0) (by decide +kernel : decode (mB 72) 23 = .ok (.getfield 164, 3)) (by decide +kernel) (Or.inl rfl)
theorem t72_26 : rn 72 26 ls (.int y :: .int x :: r) M = if y ≤ x then rn 72 72 ls r M else rn 72 29 ls r M := r_if (o := 46) (r := r) (c := y ≤ x) (by decide +kernel : decode (mB 72) 26 = .ok (.if_icmp .ge 46, 3)) rfl (by decide) rfl
theorem t72_29 : rn 72 29 (a0 :: some (.ref a) :: l) r M = rn 72 30 (a0 :: some (.ref a) :: l) (.ref a :: r) M := r_aload_n (by decide +kernel : decode (mB 72) 29 = .ok (.aload_n 1, 1)) rfl
theorem t72_30 : rn 72 30 ls (.ref a :: r) M = if mK M a = (12, 0) then rn 72 33 ls (.long (mJ M a 1) :: r) M else none := r_getJ (ci := 2) (k := 1) (by decide +kernel : decode (mB 72) 30 = .ok (.getfield 116, 3)) (by decide +kernel) rfl
theorem t72_33 : rn 72 33 (a0 :: a1 :: some (.int x) :: l) r M = rn 72 34 (a0 :: a1 :: some (.int x) :: l) (.int x :: r) M := r_iload_n (by decide +kernel : decode (mB 72) 33 = .ok (.iload_n 2, 1)) rfl
theorem t72_34 : rn 72 34 ls [.int x, .long u] M = cbn (cl 27 [.long u, .int x] M) 72 37 ls [] := r_callS (kd := 2) (by decide +kernel : decode (mB 72) 34 = .ok (.invokestatic 119, 3)) (by decide +kernel) (by decide +kernel) ((doS_n np_27).trans rfl)
theorem t72_37 : rn 72 37 ls (.int x :: r) M = if ¬ x = 0 then rn 72 66 ls r M else rn 72 40 ls r M := r_if (o := 29) (r := r) (c := ¬ x = 0) (by decide +kernel : decode (mB 72) 37 = .ok (.ifCond .ne 29, 3)) rfl (by decide) rfl
theorem t72_40 : rn 72 40 (some (.ref a) :: l) r M = rn 72 41 (some (.ref a) :: l) (.ref a :: r) M := r_aload_n (by decide +kernel : decode (mB 72) 40 = .ok (.aload_n 0, 1)) rfl
theorem t72_41 : rn 72 41 ls (.ref a :: r) M = if mK M a = (10, 0) then rn 72 44 ls (va_rf (mP M a 5) :: r) M else none := r_getP (ci := 0) (k := 5) (by decide +kernel : decode (mB 72) 41 = .ok (.getfield 46, 3)) (by decide +kernel) rfl
theorem t72_44 : rn 72 44 (a0 :: some (.ref a) :: l) r M = rn 72 45 (a0 :: some (.ref a) :: l) (.ref a :: r) M := r_aload_n (by decide +kernel : decode (mB 72) 44 = .ok (.aload_n 1, 1)) rfl
theorem t72_45 : rn 72 45 ls (.ref a :: r) M = if mK M a = (12, 0) then rn 72 48 ls (va_rf (mP M a 2) :: r) M else none := r_getP (ci := 2) (k := 2) (by decide +kernel : decode (mB 72) 45 = .ok (.getfield 106, 3)) (by decide +kernel) rfl
theorem t72_48 : rn 72 48 (a0 :: a1 :: some (.int x) :: l) r M = rn 72 49 (a0 :: a1 :: some (.int x) :: l) (.int x :: r) M := r_iload_n (by decide +kernel : decode (mB 72) 48 = .ok (.iload_n 2, 1)) rfl
theorem t72_49 : rn 72 49 ls (.int x :: .ref a :: r) M = if ((mK M a).1 = 1 ∨ (mK M a).1 = 5) ∧ inR x (mK M a).2 then rn 72 50 ls (.int (mI M a x.toNatClampNeg) :: r) M else none := r_cnd (by decide +kernel : decode (mB 72) 49 = .ok (.iaload, 1)) rfl rfl
theorem t72_50 : rn 72 50 (a0 :: some (.ref a) :: l) r M = rn 72 51 (a0 :: some (.ref a) :: l) (.ref a :: r) M := r_aload_n (by decide +kernel : decode (mB 72) 50 = .ok (.aload_n 1, 1)) rfl
theorem t72_51 : rn 72 51 ls (.ref a :: r) M = if mK M a = (12, 0) then rn 72 54 ls (va_rf (mP M a 3) :: r) M else none := r_getP (ci := 2) (k := 3) (by decide +kernel : decode (mB 72) 51 = .ok (.getfield 110, 3)) (by decide +kernel) rfl
theorem t72_54 : rn 72 54 (a0 :: a1 :: some (.int x) :: l) r M = rn 72 55 (a0 :: a1 :: some (.int x) :: l) (.int x :: r) M := r_iload_n (by decide +kernel : decode (mB 72) 54 = .ok (.iload_n 2, 1)) rfl
theorem t72_55 : rn 72 55 ls (.int x :: .ref a :: r) M = if ((mK M a).1 = 1 ∨ (mK M a).1 = 5) ∧ inR x (mK M a).2 then rn 72 56 ls (.int (mI M a x.toNatClampNeg) :: r) M else none := r_cnd (by decide +kernel : decode (mB 72) 55 = .ok (.iaload, 1)) rfl rfl
theorem t72_56 : rn 72 56 (a0 :: some (.ref a) :: l) r M = rn 72 57 (a0 :: some (.ref a) :: l) (.ref a :: r) M := r_aload_n (by decide +kernel : decode (mB 72) 56 = .ok (.aload_n 1, 1)) rfl
theorem t72_57 : rn 72 57 ls (.ref a :: r) M = if mK M a = (12, 0) then rn 72 60 ls (va_rf (mP M a 4) :: r) M else none := r_getP (ci := 2) (k := 4) (by decide +kernel : decode (mB 72) 57 = .ok (.getfield 113, 3)) (by decide +kernel) rfl
theorem t72_60 : rn 72 60 (a0 :: a1 :: some (.int x) :: l) r M = rn 72 61 (a0 :: a1 :: some (.int x) :: l) (.int x :: r) M := r_iload_n (by decide +kernel : decode (mB 72) 60 = .ok (.iload_n 2, 1)) rfl
theorem t72_61 : rn 72 61 ls (.int x :: .ref a :: r) M = if ((mK M a).1 = 1 ∨ (mK M a).1 = 5) ∧ inR x (mK M a).2 then rn 72 62 ls (.int (mI M a x.toNatClampNeg) :: r) M else none := r_cnd (by decide +kernel : decode (mB 72) 61 = .ok (.iaload, 1)) rfl rfl
theorem t72_62 : rn 72 62 ls [.int x, .int y, .int z, .ref a] M = if mK M a = (14, 0) then cbn (cl 50 [.ref a, .int z, .int y, .int x] M) 72 65 ls [] else none := r_callV (kd := 0) (by decide +kernel : decode (mB 72) 62 = .ok (.invokevirtual 213, 3)) (by decide +kernel) ((doV_n np_50).trans rfl)
theorem t72_65 : rn 72 65 ls (.int x :: r) M = rn 72 66 ls r M := r_nx (by decide +kernel : decode (mB 72) 65 = .ok (.pop, 1)) rfl rfl
theorem t72_66 : rn 72 66 (a0 :: a1 :: some (.int x) :: l) r M = rn 72 69 (a0 :: a1 :: some (.int (x + 1)) :: l) r M := r_iinc (by decide +kernel : decode (mB 72) 66 = .ok (.iinc 2 1, 3)) rfl
theorem t72_69 : rn 72 69 ls r M = rn 72 21 ls r M := r_goto (o := (-48)) (by decide +kernel : decode (mB 72) 69 = .ok (.goto (-48), 3)) (by decide)
theorem t72_72 : rn 72 72 (some (.ref a) :: l) r M = rn 72 73 (some (.ref a) :: l) (.ref a :: r) M := r_aload_n (by decide +kernel : decode (mB 72) 72 = .ok (.aload_n 0, 1)) rfl
theorem t72_73 : rn 72 73 ls (.ref a :: r) M = if mK M a = (10, 0) then rn 72 76 ls (va_rf (mP M a 4) :: r) M else none := r_getP (ci := 0) (k := 4) (by decide +kernel : decode (mB 72) 73 = .ok (.getfield 39, 3)) (by decide +kernel) rfl
theorem t72_76 : rn 72 76 ls (.ref a :: r) M = if mK M a = (13, 0) then rn 72 79 ls (va_rf (mP M a 6) :: r) M else none := r_getP (ci := 3) (k := 6) (by decide +kernel : decode (mB 72) 76 = .ok (.getfield 142, 3)) (by decide +kernel) rfl
theorem t72_79 : rn 72 79 (some (.ref a) :: l) r M = rn 72 80 (some (.ref a) :: l) (.ref a :: r) M := r_aload_n (by decide +kernel : decode (mB 72) 79 = .ok (.aload_n 0, 1)) rfl
theorem t72_80 : rn 72 80 ls (.ref a :: r) M = if mK M a = (10, 0) then rn 72 83 ls (va_rf (mP M a 5) :: r) M else none := r_getP (ci := 0) (k := 5) (by decide +kernel : decode (mB 72) 80 = .ok (.getfield 46, 3)) (by decide +kernel) rfl
theorem t72_83 : rn 72 83 ls [.ref a, .ref b] M = if mK M b = (14, 0) then cbn (cl 73 [.ref b, .ref a] M) 72 86 ls [] else none := r_callV (kd := 0) (by decide +kernel : decode (mB 72) 83 = .ok (.invokevirtual 216, 3)) (by decide +kernel) ((doV_n np_73).trans rfl)
theorem t72_86 : rn 72 86 ls [.int x] M = some (some (.int x), M) := r_ireturn (by decide +kernel : decode (mB 72) 86 = .ok (.ireturn, 1)) rfl
-- 74 DR_put(J)I
theorem t74_0 : rn 74 0 (some (.ref a) :: l) r M = rn 74 1 (some (.ref a) :: l) (.ref a :: r) M := r_aload_n (by decide +kernel : decode (mB 74) 0 = .ok (.aload_n 0, 1)) rfl
theorem t74_1 : rn 74 1 ls (.ref a :: r) M = if mK M a = (10, 0) then rn 74 4 ls (va_rf (mP M a 3) :: r) M else none := r_getP (ci := 0) (k := 3) (by decide +kernel : decode (mB 74) 1 = .ok (.getfield 32, 3)) (by decide +kernel) rfl
theorem t74_4 : rn 74 4 ls (.ref a :: r) M = if mK M a = (16, 0) then rn 74 7 ls (va_rf (mP M a 0) :: r) M else none := r_getP (ci := 6) (k := 0) (by decide +kernel : decode (mB 74) 4 = .ok (.getfield 180, 3)) (by decide +kernel) rfl
theorem t74_7 : rn 74 7 (a0 :: some (.long u) :: none :: l) r M = rn 74 8 (a0 :: some (.long u) :: none :: l) (.long u :: r) M := r_lload_n (by decide +kernel : decode (mB 74) 7 = .ok (.lload_n 1, 1)) rfl rfl
theorem t74_8 : rn 74 8 ls [.long u, .ref a] M = if mK M a = (17, 0) then cbn (cl 75 [.ref a, .long u] M) 74 11 ls [] else none := r_callV (kd := 0) (by decide +kernel : decode (mB 74) 8 = .ok (.invokevirtual 220, 3)) (by decide +kernel) ((doV_n np_75).trans rfl)
theorem t74_11 : rn 74 11 ls [.int x] M = some (some (.int x), M) := r_ireturn (by decide +kernel : decode (mB 74) 11 = .ok (.ireturn, 1)) rfl
-- 77 DR_wipe()I
theorem t77_0 : rn 77 0 (some (.ref a) :: l) r M = rn 77 1 (some (.ref a) :: l) (.ref a :: r) M := r_aload_n (by decide +kernel : decode (mB 77) 0 = .ok (.aload_n 0, 1)) rfl
theorem t77_1 : rn 77 1 ls (.ref a :: r) M = if mK M a = (10, 0) then rn 77 4 ls (va_rf (mP M a 3) :: r) M else none := r_getP (ci := 0) (k := 3) (by decide +kernel : decode (mB 77) 1 = .ok (.getfield 32, 3)) (by decide +kernel) rfl
theorem t77_4 : rn 77 4 ls (.ref a :: r) M = if mK M a = (16, 0) then rn 77 7 ls (va_rf (mP M a 0) :: r) M else none := r_getP (ci := 6) (k := 0) (by decide +kernel : decode (mB 77) 4 = .ok (.getfield 180, 3)) (by decide +kernel) rfl
theorem t77_7 : rn 77 7 ls [.ref a] M = if mK M a = (17, 0) then cbn (cl 78 [.ref a] M) 77 10 ls [] else none := r_callV (kd := 0) (by decide +kernel : decode (mB 77) 7 = .ok (.invokevirtual 223, 3)) (by decide +kernel) ((doV_n np_78).trans rfl)
theorem t77_10 : rn 77 10 ls [.int x] M = some (some (.int x), M) := r_ireturn (by decide +kernel : decode (mB 77) 10 = .ok (.ireturn, 1)) rfl
-- 79 DR_fault()I
theorem t79_0 : rn 79 0 (some (.ref a) :: l) r M = rn 79 1 (some (.ref a) :: l) (.ref a :: r) M := r_aload_n (by decide +kernel : decode (mB 79) 0 = .ok (.aload_n 0, 1)) rfl
theorem t79_1 : rn 79 1 ls (.ref a :: r) M = if mK M a = (10, 0) then rn 79 4 ls (va_rf (mP M a 3) :: r) M else none := r_getP (ci := 0) (k := 3) (by decide +kernel : decode (mB 79) 1 = .ok (.getfield 32, 3)) (by decide +kernel) rfl
theorem t79_4 : rn 79 4 ls [.ref a] M = if mK M a = (16, 0) then cbn (cl 80 [.ref a] M) 79 7 ls [] else none := r_callV (kd := 0) (by decide +kernel : decode (mB 79) 4 = .ok (.invokevirtual 225, 3)) (by decide +kernel) ((doV_n np_80).trans rfl)
theorem t79_7 : rn 79 7 ls [.int x] M = some (some (.int x), M) := r_ireturn (by decide +kernel : decode (mB 79) 7 = .ok (.ireturn, 1)) rfl
-- 92 DR_carryOut()I
theorem t92_0 : rn 92 0 (some (.ref a) :: l) r M = rn 92 1 (some (.ref a) :: l) (.ref a :: r) M := r_aload_n (by decide +kernel : decode (mB 92) 0 = .ok (.aload_n 0, 1)) rfl
theorem t92_1 : rn 92 1 ls (.ref a :: r) M = if mK M a = (10, 0) then rn 92 4 ls (va_rf (mP M a 3) :: r) M else none := r_getP (ci := 0) (k := 3) (by decide +kernel : decode (mB 92) 1 = .ok (.getfield 32, 3)) (by decide +kernel) rfl
theorem t92_4 : rn 92 4 ls [.ref a] M = if mK M a = (16, 0) then cbn (cl 80 [.ref a] M) 92 7 ls [] else none := r_callV (kd := 0) (by decide +kernel : decode (mB 92) 4 = .ok (.invokevirtual 225, 3)) (by decide +kernel) ((doV_n np_80).trans rfl)
theorem t92_7 : rn 92 7 ls r M = rn 92 9 ls (.int (-6) :: r) M := r_nx (by decide +kernel : decode (mB 92) 7 = .ok (.bipush (-6), 2)) rfl rfl
theorem t92_9 : rn 92 9 ls (.int y :: .int x :: r) M = if x = y then rn 92 15 ls r M else rn 92 12 ls r M := r_if (o := 6) (r := r) (c := x = y) (by decide +kernel : decode (mB 92) 9 = .ok (.if_icmp .eq 6, 3)) rfl (by decide) rfl
theorem t92_12 : rn 92 12 ls r M = rn 92 14 ls (.int (-3) :: r) M := r_nx (by decide +kernel : decode (mB 92) 12 = .ok (.bipush (-3), 2)) rfl rfl
theorem t92_14 : rn 92 14 ls [.int x] M = some (some (.int x), M) := r_ireturn (by decide +kernel : decode (mB 92) 14 = .ok (.ireturn, 1)) rfl
theorem t92_15 : rn 92 15 (some (.ref a) :: l) r M = rn 92 16 (some (.ref a) :: l) (.ref a :: r) M := r_aload_n (by decide +kernel : decode (mB 92) 15 = .ok (.aload_n 0, 1)) rfl
theorem t92_16 : rn 92 16 ls (.ref a :: r) M = if mK M a = (10, 0) then rn 92 19 ls (va_rf (mP M a 1) :: r) M else none := r_getP (ci := 0) (k := 1) (by decide +kernel : decode (mB 92) 16 = .ok (.getfield 19, 3)) (by decide +kernel) rfl
theorem t92_19 : rn 92 19 (some (.ref a) :: l) r M = rn 92 20 (some (.ref a) :: l) (.ref a :: r) M := r_aload_n (by decide +kernel : decode (mB 92) 19 = .ok (.aload_n 0, 1)) rfl
theorem t92_20 : rn 92 20 ls (.ref a :: r) M = if mK M a = (10, 0) then rn 92 23 ls (va_rf (mP M a 0) :: r) M else none := r_getP (ci := 0) (k := 0) (by decide +kernel : decode (mB 92) 20 = .ok (.getfield 10, 3)) (by decide +kernel) rfl
theorem t92_23 : rn 92 23 ls [.ref a, .ref b] M = if mK M b = (15, 0) then cbn (cl 13 [.ref b, .ref a] M) 92 26 ls [] else none := r_callV (kd := 0) (by decide +kernel : decode (mB 92) 23 = .ok (.invokevirtual 51, 3)) (by decide +kernel) ((doV_n np_13).trans rfl)
theorem t92_26 : rn 92 26 ls r M = rn 92 27 ls (.int 0 :: r) M := r_nx (by decide +kernel : decode (mB 92) 26 = .ok (.iconst 0, 1)) rfl rfl
theorem t92_27 : rn 92 27 (a0 :: a1 :: l) (.int x :: r) M = rn 92 28 (a0 :: some (.int x) :: l) r M := r_istore_n (by decide +kernel : decode (mB 92) 27 = .ok (.istore_n 1, 1)) (Nat.le_add_left 2 l.length)
theorem t92_28 : rn 92 28 (some (.ref a) :: l) r M = rn 92 29 (some (.ref a) :: l) (.ref a :: r) M := r_aload_n (by decide +kernel : decode (mB 92) 28 = .ok (.aload_n 0, 1)) rfl
theorem t92_29 : rn 92 29 ls (.ref a :: r) M = if mK M a = (10, 0) then rn 92 32 ls (va_rf (mP M a 3) :: r) M else none := r_getP (ci := 0) (k := 3) (by decide +kernel : decode (mB 92) 29 = .ok (.getfield 32, 3)) (by decide +kernel) rfl
theorem t92_32 : rn 92 32 ls [.ref a] M = if mK M a = (16, 0) then cbn (cl 81 [.ref a] M) 92 35 ls [] else none := r_callV (kd := 0) (by decide +kernel : decode (mB 92) 32 = .ok (.invokevirtual 228, 3)) (by decide +kernel) ((doV_n np_81).trans rfl)
theorem t92_35 : rn 92 35 (a0 :: some (.int x) :: l) r M = rn 92 36 (a0 :: some (.int x) :: l) (.int x :: r) M := r_iload_n (by decide +kernel : decode (mB 92) 35 = .ok (.iload_n 1, 1)) rfl
theorem t92_36 : rn 92 36 ls r M = rn 92 38 ls (.int 80 :: r) M := r_nx (by decide +kernel : decode (mB 92) 36 = .ok (.bipush 80, 2)) rfl rfl
theorem t92_38 : rn 92 38 ls (.int y :: .int x :: r) M = if y ≤ x then rn 92 74 ls r M else rn 92 41 ls r M := r_if (o := 36) (r := r) (c := y ≤ x) (by decide +kernel : decode (mB 92) 38 = .ok (.if_icmp .ge 36, 3)) rfl (by decide) rfl
theorem t92_41 : rn 92 41 (some (.ref a) :: l) r M = rn 92 42 (some (.ref a) :: l) (.ref a :: r) M := r_aload_n (by decide +kernel : decode (mB 92) 41 = .ok (.aload_n 0, 1)) rfl
theorem t92_42 : rn 92 42 ls (.ref a :: r) M = if mK M a = (10, 0) then rn 92 45 ls (va_rf (mP M a 3) :: r) M else none := r_getP (ci := 0) (k := 3) (by decide +kernel : decode (mB 92) 42 = .ok (.getfield 32, 3)) (by decide +kernel) rfl
theorem t92_45 : rn 92 45 ls [.ref a] M = if mK M a = (16, 0) then cbn (cl 82 [.ref a] M) 92 48 ls [] else none := r_callV (kd := 0) (by decide +kernel : decode (mB 92) 45 = .ok (.invokevirtual 231, 3)) (by decide +kernel) ((doV_n np_82).trans rfl)
theorem t92_48 : rn 92 48 ls (.int x :: r) M = if x = 0 then rn 92 74 ls r M else rn 92 51 ls r M := r_if (o := 26) (r := r) (c := x = 0) (by decide +kernel : decode (mB 92) 48 = .ok (.ifCond .eq 26, 3)) rfl (by decide) rfl
theorem t92_51 : rn 92 51 (some (.ref a) :: l) r M = rn 92 52 (some (.ref a) :: l) (.ref a :: r) M := r_aload_n (by decide +kernel : decode (mB 92) 51 = .ok (.aload_n 0, 1)) rfl
theorem t92_52 : rn 92 52 ls [.ref a] M = if mK M a = (10, 0) then cbn (cl 93 [.ref a] M) 92 55 ls [] else none := r_callV (kd := 0) (by decide +kernel : decode (mB 92) 52 = .ok (.invokevirtual 235, 3)) (by decide +kernel) ((doV_n np_93).trans rfl)
theorem t92_55 : rn 92 55 ls (.int x :: r) M = if x < 0 then rn 92 74 ls r M else rn 92 58 ls r M := r_if (o := 19) (r := r) (c := x < 0) (by decide +kernel : decode (mB 92) 55 = .ok (.ifCond .lt 19, 3)) rfl (by decide) rfl
theorem t92_58 : rn 92 58 (a0 :: some (.int x) :: l) r M = rn 92 61 (a0 :: some (.int (x + 1)) :: l) r M := r_iinc (by decide +kernel : decode (mB 92) 58 = .ok (.iinc 1 1, 3)) rfl
theorem t92_61 : rn 92 61 (some (.ref a) :: l) r M = rn 92 62 (some (.ref a) :: l) (.ref a :: r) M := r_aload_n (by decide +kernel : decode (mB 92) 61 = .ok (.aload_n 0, 1)) rfl
theorem t92_62 : rn 92 62 ls (.ref a :: r) M = if mK M a = (10, 0) then rn 92 65 ls (va_rf (mP M a 3) :: r) M else none := r_getP (ci := 0) (k := 3) (by decide +kernel : decode (mB 92) 62 = .ok (.getfield 32, 3)) (by decide +kernel) rfl
theorem t92_65 : rn 92 65 ls r M = rn 92 67 ls (.int 59 :: r) M := r_nx (by decide +kernel : decode (mB 92) 65 = .ok (.bipush 59, 2)) rfl rfl
theorem t92_67 : rn 92 67 ls [.int x, .ref a] M = if mK M a = (16, 0) then cbn (cl 84 [.ref a, .int x] M) 92 70 ls [] else none := r_callV (kd := 0) (by decide +kernel : decode (mB 92) 67 = .ok (.invokevirtual 238, 3)) (by decide +kernel) ((doV_n np_84).trans rfl)
theorem t92_70 : rn 92 70 ls (.int x :: r) M = rn 92 71 ls r M := r_nx (by decide +kernel : decode (mB 92) 70 = .ok (.pop, 1)) rfl rfl
theorem t92_71 : rn 92 71 ls r M = rn 92 35 ls r M := r_goto (o := (-36)) (by decide +kernel : decode (mB 92) 71 = .ok (.goto (-36), 3)) (by decide)
theorem t92_74 : rn 92 74 (some (.ref a) :: l) r M = rn 92 75 (some (.ref a) :: l) (.ref a :: r) M := r_aload_n (by decide +kernel : decode (mB 92) 74 = .ok (.aload_n 0, 1)) rfl
theorem t92_75 : rn 92 75 ls (.ref a :: r) M = if mK M a = (10, 0) then rn 92 78 ls (va_rf (mP M a 3) :: r) M else none := r_getP (ci := 0) (k := 3) (by decide +kernel : decode (mB 92) 75 = .ok (.getfield 32, 3)) (by decide +kernel) rfl
theorem t92_78 : rn 92 78 ls (.ref a :: r) M = if mK M a = (16, 0) then rn 92 81 ls (va_rf (mP M a 0) :: r) M else none := r_getP (ci := 6) (k := 0) (by decide +kernel : decode (mB 92) 78 = .ok (.getfield 180, 3)) (by decide +kernel) rfl
theorem t92_81 : rn 92 81 ls [.ref a] M = if mK M a = (17, 0) then cbn (cl 78 [.ref a] M) 92 84 ls [] else none := r_callV (kd := 0) (by decide +kernel : decode (mB 92) 81 = .ok (.invokevirtual 223, 3)) (by decide +kernel) ((doV_n np_78).trans rfl)
theorem t92_84 : rn 92 84 ls (.int x :: r) M = rn 92 85 ls r M := r_nx (by decide +kernel : decode (mB 92) 84 = .ok (.pop, 1)) rfl rfl
theorem t92_85 : rn 92 85 (some (.ref a) :: l) r M = rn 92 86 (some (.ref a) :: l) (.ref a :: r) M := r_aload_n (by decide +kernel : decode (mB 92) 85 = .ok (.aload_n 0, 1)) rfl
theorem t92_86 : rn 92 86 (a0 :: some (.int x) :: l) r M = rn 92 87 (a0 :: some (.int x) :: l) (.int x :: r) M := r_iload_n (by decide +kernel : decode (mB 92) 86 = .ok (.iload_n 1, 1)) rfl
theorem t92_87 : rn 92 87 ls [.int x, .ref a] M = if mK M a = (10, 0) then cbn (cl 28 [.ref a, .int x] M) 92 90 ls [] else none := r_callV (kd := 0) (by decide +kernel : decode (mB 92) 87 = .ok (.invokevirtual 59, 3)) (by decide +kernel) ((doV_n np_28).trans rfl)
theorem t92_90 : rn 92 90 ls [.int x] M = some (some (.int x), M) := r_ireturn (by decide +kernel : decode (mB 92) 90 = .ok (.ireturn, 1)) rfl
-- 93 DR_carryOrderOut()I
theorem t93_0 : rn 93 0 (some (.ref a) :: l) r M = rn 93 1 (some (.ref a) :: l) (.ref a :: r) M := r_aload_n (by decide +kernel : decode (mB 93) 0 = .ok (.aload_n 0, 1)) rfl
theorem t93_1 : rn 93 1 ls (.ref a :: r) M = if mK M a = (10, 0) then rn 93 4 ls (va_rf (mP M a 3) :: r) M else none := r_getP (ci := 0) (k := 3) (by decide +kernel : decode (mB 93) 1 = .ok (.getfield 32, 3)) (by decide +kernel) rfl
theorem t93_4 : rn 93 4 ls (.ref a :: r) M = if mK M a = (16, 0) then rn 93 7 ls (.int (mI M a 2) :: r) M else none := r_getI (ci := 6) (k := 2) (by decide +kernel : decode (mB 93) 4 = .ok (.getfield 261, 3)) (by decide +kernel) (Or.inl rfl)
theorem t93_7 : rn 93 7 ls (.int x :: r) M = if x = 100 then rn 93 169 ls r M else if x = 102 then rn 93 202 ls r M else if x = 108 then rn 93 187 ls r M else if x = 109 then rn 93 100 ls r M else if x = 110 then rn 93 217 ls r M else if x = 114 then rn 93 239 ls r M else if x = 118 then rn 93 146 ls r M else if x = 119 then rn 93 123 ls r M else rn 93 257 ls r M := by
  have D := (by decide +kernel : decode (mB 93) 7 = .ok (.tableswitch 250 100 119 #[162, 250, 195, 250, 250, 250, 250, 250, 180, 93, 210, 250, 250, 250, 232, 250, 250, 250, 139, 116], 93))
  by_cases h0 : x = 100
  · rw [h0, r_tab D]; rfl
  by_cases h1 : x = 101
  · rw [h1, r_tab D]; rfl
  by_cases h2 : x = 102
  · rw [h2, r_tab D]; rfl
  by_cases h3 : x = 103
  · rw [h3, r_tab D]; rfl
  by_cases h4 : x = 104
  · rw [h4, r_tab D]; rfl
  by_cases h5 : x = 105
  · rw [h5, r_tab D]; rfl
  by_cases h6 : x = 106
  · rw [h6, r_tab D]; rfl
  by_cases h7 : x = 107
  · rw [h7, r_tab D]; rfl
  by_cases h8 : x = 108
  · rw [h8, r_tab D]; rfl
  by_cases h9 : x = 109
  · rw [h9, r_tab D]; rfl
  by_cases h10 : x = 110
  · rw [h10, r_tab D]; rfl
  by_cases h11 : x = 111
  · rw [h11, r_tab D]; rfl
  by_cases h12 : x = 112
  · rw [h12, r_tab D]; rfl
  by_cases h13 : x = 113
  · rw [h13, r_tab D]; rfl
  by_cases h14 : x = 114
  · rw [h14, r_tab D]; rfl
  by_cases h15 : x = 115
  · rw [h15, r_tab D]; rfl
  by_cases h16 : x = 116
  · rw [h16, r_tab D]; rfl
  by_cases h17 : x = 117
  · rw [h17, r_tab D]; rfl
  by_cases h18 : x = 118
  · rw [h18, r_tab D]; rfl
  by_cases h19 : x = 119
  · rw [h19, r_tab D]; rfl
  rw [r_tabO D (by have e0 : x.toInt ≠ 100 := ti_ne h0; have e1 : x.toInt ≠ 101 := ti_ne h1; have e2 : x.toInt ≠ 102 := ti_ne h2; have e3 : x.toInt ≠ 103 := ti_ne h3; have e4 : x.toInt ≠ 104 := ti_ne h4; have e5 : x.toInt ≠ 105 := ti_ne h5; have e6 : x.toInt ≠ 106 := ti_ne h6; have e7 : x.toInt ≠ 107 := ti_ne h7; have e8 : x.toInt ≠ 108 := ti_ne h8; have e9 : x.toInt ≠ 109 := ti_ne h9; have e10 : x.toInt ≠ 110 := ti_ne h10; have e11 : x.toInt ≠ 111 := ti_ne h11; have e12 : x.toInt ≠ 112 := ti_ne h12; have e13 : x.toInt ≠ 113 := ti_ne h13; have e14 : x.toInt ≠ 114 := ti_ne h14; have e15 : x.toInt ≠ 115 := ti_ne h15; have e16 : x.toInt ≠ 116 := ti_ne h16; have e17 : x.toInt ≠ 117 := ti_ne h17; have e18 : x.toInt ≠ 118 := ti_ne h18; have e19 : x.toInt ≠ 119 := ti_ne h19; omega) (by decide), if_neg h0, if_neg h2, if_neg h8, if_neg h9, if_neg h10, if_neg h14, if_neg h18, if_neg h19]
  rfl
theorem t93_100 : rn 93 100 (some (.ref a) :: l) r M = rn 93 101 (some (.ref a) :: l) (.ref a :: r) M := r_aload_n (by decide +kernel : decode (mB 93) 100 = .ok (.aload_n 0, 1)) rfl
theorem t93_101 : rn 93 101 ls (.ref a :: r) M = if mK M a = (10, 0) then rn 93 104 ls (va_rf (mP M a 0) :: r) M else none := r_getP (ci := 0) (k := 0) (by decide +kernel : decode (mB 93) 101 = .ok (.getfield 10, 3)) (by decide +kernel) rfl
theorem t93_104 : rn 93 104 ls r M = rn 93 105 ls (.int 0 :: r) M := r_nx (by decide +kernel : decode (mB 93) 104 = .ok (.iconst 0, 1)) rfl rfl
theorem t93_105 : rn 93 105 (some (.ref a) :: l) r M = rn 93 106 (some (.ref a) :: l) (.ref a :: r) M := r_aload_n (by decide +kernel : decode (mB 93) 105 = .ok (.aload_n 0, 1)) rfl
theorem t93_106 : rn 93 106 ls (.ref a :: r) M = if mK M a = (10, 0) then rn 93 109 ls (va_rf (mP M a 3) :: r) M else none := r_getP (ci := 0) (k := 3) (by decide +kernel : decode (mB 93) 106 = .ok (.getfield 32, 3)) (by decide +kernel) rfl
theorem t93_109 : rn 93 109 ls (.ref a :: r) M = if mK M a = (16, 0) then rn 93 112 ls (.int (mI M a 3) :: r) M else none := r_getI (ci := 6) (k := 3) (by decide +kernel : decode (mB 93) 109 = .ok (.getfield 264, 3)) (by decide +kernel) (Or.inl rfl)
theorem t93_112 : rn 93 112 (some (.ref a) :: l) r M = rn 93 113 (some (.ref a) :: l) (.ref a :: r) M := r_aload_n (by decide +kernel : decode (mB 93) 112 = .ok (.aload_n 0, 1)) rfl
theorem t93_113 : rn 93 113 ls (.ref a :: r) M = if mK M a = (10, 0) then rn 93 116 ls (va_rf (mP M a 3) :: r) M else none := r_getP (ci := 0) (k := 3) (by decide +kernel : decode (mB 93) 113 = .ok (.getfield 32, 3)) (by decide +kernel) rfl
theorem t93_116 : rn 93 116 ls (.ref a :: r) M = if mK M a = (16, 0) then rn 93 119 ls (.int (mI M a 4) :: r) M else none := r_getI (ci := 6) (k := 4) (by decide +kernel : decode (mB 93) 116 = .ok (.getfield 267, 3)) (by decide +kernel) (Or.inl rfl)
theorem t93_119 : rn 93 119 ls [.int x, .int y, .int z, .ref a] M = if mK M a = (11, 0) then cbn (cl 18 [.ref a, .int z, .int y, .int x] M) 93 122 ls [] else none := r_callV (kd := 0) (by decide +kernel : decode (mB 93) 119 = .ok (.invokevirtual 55, 3)) (by decide +kernel) ((doV_n np_18).trans rfl)
theorem t93_122 : rn 93 122 ls [.int x] M = some (some (.int x), M) := r_ireturn (by decide +kernel : decode (mB 93) 122 = .ok (.ireturn, 1)) rfl
theorem t93_123 : rn 93 123 (some (.ref a) :: l) r M = rn 93 124 (some (.ref a) :: l) (.ref a :: r) M := r_aload_n (by decide +kernel : decode (mB 93) 123 = .ok (.aload_n 0, 1)) rfl
theorem t93_124 : rn 93 124 ls (.ref a :: r) M = if mK M a = (10, 0) then rn 93 127 ls (va_rf (mP M a 0) :: r) M else none := r_getP (ci := 0) (k := 0) (by decide +kernel : decode (mB 93) 124 = .ok (.getfield 10, 3)) (by decide +kernel) rfl
theorem t93_127 : rn 93 127 ls r M = rn 93 128 ls (.int 1 :: r) M := r_nx (by decide +kernel : decode (mB 93) 127 = .ok (.iconst 1, 1)) rfl rfl
theorem t93_128 : rn 93 128 (some (.ref a) :: l) r M = rn 93 129 (some (.ref a) :: l) (.ref a :: r) M := r_aload_n (by decide +kernel : decode (mB 93) 128 = .ok (.aload_n 0, 1)) rfl
theorem t93_129 : rn 93 129 ls (.ref a :: r) M = if mK M a = (10, 0) then rn 93 132 ls (va_rf (mP M a 3) :: r) M else none := r_getP (ci := 0) (k := 3) (by decide +kernel : decode (mB 93) 129 = .ok (.getfield 32, 3)) (by decide +kernel) rfl
theorem t93_132 : rn 93 132 ls (.ref a :: r) M = if mK M a = (16, 0) then rn 93 135 ls (.int (mI M a 3) :: r) M else none := r_getI (ci := 6) (k := 3) (by decide +kernel : decode (mB 93) 132 = .ok (.getfield 264, 3)) (by decide +kernel) (Or.inl rfl)
theorem t93_135 : rn 93 135 (some (.ref a) :: l) r M = rn 93 136 (some (.ref a) :: l) (.ref a :: r) M := r_aload_n (by decide +kernel : decode (mB 93) 135 = .ok (.aload_n 0, 1)) rfl
theorem t93_136 : rn 93 136 ls (.ref a :: r) M = if mK M a = (10, 0) then rn 93 139 ls (va_rf (mP M a 3) :: r) M else none := r_getP (ci := 0) (k := 3) (by decide +kernel : decode (mB 93) 136 = .ok (.getfield 32, 3)) (by decide +kernel) rfl
theorem t93_139 : rn 93 139 ls (.ref a :: r) M = if mK M a = (16, 0) then rn 93 142 ls (.int (mI M a 4) :: r) M else none := r_getI (ci := 6) (k := 4) (by decide +kernel : decode (mB 93) 139 = .ok (.getfield 267, 3)) (by decide +kernel) (Or.inl rfl)
theorem t93_142 : rn 93 142 ls [.int x, .int y, .int z, .ref a] M = if mK M a = (11, 0) then cbn (cl 18 [.ref a, .int z, .int y, .int x] M) 93 145 ls [] else none := r_callV (kd := 0) (by decide +kernel : decode (mB 93) 142 = .ok (.invokevirtual 55, 3)) (by decide +kernel) ((doV_n np_18).trans rfl)
theorem t93_145 : rn 93 145 ls [.int x] M = some (some (.int x), M) := r_ireturn (by decide +kernel : decode (mB 93) 145 = .ok (.ireturn, 1)) rfl
theorem t93_146 : rn 93 146 (some (.ref a) :: l) r M = rn 93 147 (some (.ref a) :: l) (.ref a :: r) M := r_aload_n (by decide +kernel : decode (mB 93) 146 = .ok (.aload_n 0, 1)) rfl
theorem t93_147 : rn 93 147 ls (.ref a :: r) M = if mK M a = (10, 0) then rn 93 150 ls (va_rf (mP M a 0) :: r) M else none := r_getP (ci := 0) (k := 0) (by decide +kernel : decode (mB 93) 147 = .ok (.getfield 10, 3)) (by decide +kernel) rfl
theorem t93_150 : rn 93 150 ls r M = rn 93 151 ls (.int 2 :: r) M := r_nx (by decide +kernel : decode (mB 93) 150 = .ok (.iconst 2, 1)) rfl rfl
theorem t93_151 : rn 93 151 (some (.ref a) :: l) r M = rn 93 152 (some (.ref a) :: l) (.ref a :: r) M := r_aload_n (by decide +kernel : decode (mB 93) 151 = .ok (.aload_n 0, 1)) rfl
theorem t93_152 : rn 93 152 ls (.ref a :: r) M = if mK M a = (10, 0) then rn 93 155 ls (va_rf (mP M a 3) :: r) M else none := r_getP (ci := 0) (k := 3) (by decide +kernel : decode (mB 93) 152 = .ok (.getfield 32, 3)) (by decide +kernel) rfl
theorem t93_155 : rn 93 155 ls (.ref a :: r) M = if mK M a = (16, 0) then rn 93 158 ls (.int (mI M a 3) :: r) M else none := r_getI (ci := 6) (k := 3) (by decide +kernel : decode (mB 93) 155 = .ok (.getfield 264, 3)) (by decide +kernel) (Or.inl rfl)
theorem t93_158 : rn 93 158 (some (.ref a) :: l) r M = rn 93 159 (some (.ref a) :: l) (.ref a :: r) M := r_aload_n (by decide +kernel : decode (mB 93) 158 = .ok (.aload_n 0, 1)) rfl
theorem t93_159 : rn 93 159 ls (.ref a :: r) M = if mK M a = (10, 0) then rn 93 162 ls (va_rf (mP M a 3) :: r) M else none := r_getP (ci := 0) (k := 3) (by decide +kernel : decode (mB 93) 159 = .ok (.getfield 32, 3)) (by decide +kernel) rfl
theorem t93_162 : rn 93 162 ls (.ref a :: r) M = if mK M a = (16, 0) then rn 93 165 ls (.int (mI M a 4) :: r) M else none := r_getI (ci := 6) (k := 4) (by decide +kernel : decode (mB 93) 162 = .ok (.getfield 267, 3)) (by decide +kernel) (Or.inl rfl)
theorem t93_165 : rn 93 165 ls [.int x, .int y, .int z, .ref a] M = if mK M a = (11, 0) then cbn (cl 18 [.ref a, .int z, .int y, .int x] M) 93 168 ls [] else none := r_callV (kd := 0) (by decide +kernel : decode (mB 93) 165 = .ok (.invokevirtual 55, 3)) (by decide +kernel) ((doV_n np_18).trans rfl)
theorem t93_168 : rn 93 168 ls [.int x] M = some (some (.int x), M) := r_ireturn (by decide +kernel : decode (mB 93) 168 = .ok (.ireturn, 1)) rfl
theorem t93_169 : rn 93 169 (some (.ref a) :: l) r M = rn 93 170 (some (.ref a) :: l) (.ref a :: r) M := r_aload_n (by decide +kernel : decode (mB 93) 169 = .ok (.aload_n 0, 1)) rfl
theorem t93_170 : rn 93 170 ls (.ref a :: r) M = if mK M a = (10, 0) then rn 93 173 ls (va_rf (mP M a 0) :: r) M else none := r_getP (ci := 0) (k := 0) (by decide +kernel : decode (mB 93) 170 = .ok (.getfield 10, 3)) (by decide +kernel) rfl
theorem t93_173 : rn 93 173 ls r M = rn 93 174 ls (.int 3 :: r) M := r_nx (by decide +kernel : decode (mB 93) 173 = .ok (.iconst 3, 1)) rfl rfl
theorem t93_174 : rn 93 174 (some (.ref a) :: l) r M = rn 93 175 (some (.ref a) :: l) (.ref a :: r) M := r_aload_n (by decide +kernel : decode (mB 93) 174 = .ok (.aload_n 0, 1)) rfl
theorem t93_175 : rn 93 175 ls (.ref a :: r) M = if mK M a = (10, 0) then rn 93 178 ls (va_rf (mP M a 3) :: r) M else none := r_getP (ci := 0) (k := 3) (by decide +kernel : decode (mB 93) 175 = .ok (.getfield 32, 3)) (by decide +kernel) rfl
theorem t93_178 : rn 93 178 ls (.ref a :: r) M = if mK M a = (16, 0) then rn 93 181 ls (.int (mI M a 3) :: r) M else none := r_getI (ci := 6) (k := 3) (by decide +kernel : decode (mB 93) 178 = .ok (.getfield 264, 3)) (by decide +kernel) (Or.inl rfl)
theorem t93_181 : rn 93 181 ls r M = rn 93 183 ls (.int (-6) :: r) M := r_nx (by decide +kernel : decode (mB 93) 181 = .ok (.bipush (-6), 2)) rfl rfl
theorem t93_183 : rn 93 183 ls [.int x, .int y, .int z, .ref a] M = if mK M a = (11, 0) then cbn (cl 18 [.ref a, .int z, .int y, .int x] M) 93 186 ls [] else none := r_callV (kd := 0) (by decide +kernel : decode (mB 93) 183 = .ok (.invokevirtual 55, 3)) (by decide +kernel) ((doV_n np_18).trans rfl)
theorem t93_186 : rn 93 186 ls [.int x] M = some (some (.int x), M) := r_ireturn (by decide +kernel : decode (mB 93) 186 = .ok (.ireturn, 1)) rfl
theorem t93_187 : rn 93 187 (some (.ref a) :: l) r M = rn 93 188 (some (.ref a) :: l) (.ref a :: r) M := r_aload_n (by decide +kernel : decode (mB 93) 187 = .ok (.aload_n 0, 1)) rfl
theorem t93_188 : rn 93 188 ls (.ref a :: r) M = if mK M a = (10, 0) then rn 93 191 ls (va_rf (mP M a 0) :: r) M else none := r_getP (ci := 0) (k := 0) (by decide +kernel : decode (mB 93) 188 = .ok (.getfield 10, 3)) (by decide +kernel) rfl
theorem t93_191 : rn 93 191 (some (.ref a) :: l) r M = rn 93 192 (some (.ref a) :: l) (.ref a :: r) M := r_aload_n (by decide +kernel : decode (mB 93) 191 = .ok (.aload_n 0, 1)) rfl
theorem t93_192 : rn 93 192 ls (.ref a :: r) M = if mK M a = (10, 0) then rn 93 195 ls (va_rf (mP M a 3) :: r) M else none := r_getP (ci := 0) (k := 3) (by decide +kernel : decode (mB 93) 192 = .ok (.getfield 32, 3)) (by decide +kernel) rfl
theorem t93_195 : rn 93 195 ls (.ref a :: r) M = if mK M a = (16, 0) then rn 93 198 ls (.int (mI M a 3) :: r) M else none := r_getI (ci := 6) (k := 3) (by decide +kernel : decode (mB 93) 195 = .ok (.getfield 264, 3)) (by decide +kernel) (Or.inl rfl)
theorem t93_198 : rn 93 198 ls [.int x, .ref a] M = if mK M a = (11, 0) then cbn (cl 39 [.ref a, .int x] M) 93 201 ls [] else none := r_callV (kd := 0) (by decide +kernel : decode (mB 93) 198 = .ok (.invokevirtual 67, 3)) (by decide +kernel) ((doV_n np_39).trans rfl)
theorem t93_201 : rn 93 201 ls [.int x] M = some (some (.int x), M) := r_ireturn (by decide +kernel : decode (mB 93) 201 = .ok (.ireturn, 1)) rfl
theorem t93_202 : rn 93 202 (some (.ref a) :: l) r M = rn 93 203 (some (.ref a) :: l) (.ref a :: r) M := r_aload_n (by decide +kernel : decode (mB 93) 202 = .ok (.aload_n 0, 1)) rfl
theorem t93_203 : rn 93 203 ls (.ref a :: r) M = if mK M a = (10, 0) then rn 93 206 ls (va_rf (mP M a 0) :: r) M else none := r_getP (ci := 0) (k := 0) (by decide +kernel : decode (mB 93) 203 = .ok (.getfield 10, 3)) (by decide +kernel) rfl
theorem t93_206 : rn 93 206 (some (.ref a) :: l) r M = rn 93 207 (some (.ref a) :: l) (.ref a :: r) M := r_aload_n (by decide +kernel : decode (mB 93) 206 = .ok (.aload_n 0, 1)) rfl
theorem t93_207 : rn 93 207 ls (.ref a :: r) M = if mK M a = (10, 0) then rn 93 210 ls (va_rf (mP M a 3) :: r) M else none := r_getP (ci := 0) (k := 3) (by decide +kernel : decode (mB 93) 207 = .ok (.getfield 32, 3)) (by decide +kernel) rfl
theorem t93_210 : rn 93 210 ls (.ref a :: r) M = if mK M a = (16, 0) then rn 93 213 ls (.int (mI M a 3) :: r) M else none := r_getI (ci := 6) (k := 3) (by decide +kernel : decode (mB 93) 210 = .ok (.getfield 264, 3)) (by decide +kernel) (Or.inl rfl)
theorem t93_213 : rn 93 213 ls [.int x, .ref a] M = if mK M a = (11, 0) then cbn (cl 44 [.ref a, .int x] M) 93 216 ls [] else none := r_callV (kd := 0) (by decide +kernel : decode (mB 93) 213 = .ok (.invokevirtual 70, 3)) (by decide +kernel) ((doV_n np_44).trans rfl)
theorem t93_216 : rn 93 216 ls [.int x] M = some (some (.int x), M) := r_ireturn (by decide +kernel : decode (mB 93) 216 = .ok (.ireturn, 1)) rfl
theorem t93_217 : rn 93 217 (some (.ref a) :: l) r M = rn 93 218 (some (.ref a) :: l) (.ref a :: r) M := r_aload_n (by decide +kernel : decode (mB 93) 217 = .ok (.aload_n 0, 1)) rfl
theorem t93_218 : rn 93 218 ls (.ref a :: r) M = if mK M a = (10, 0) then rn 93 221 ls (va_rf (mP M a 0) :: r) M else none := r_getP (ci := 0) (k := 0) (by decide +kernel : decode (mB 93) 218 = .ok (.getfield 10, 3)) (by decide +kernel) rfl
theorem t93_221 : rn 93 221 (some (.ref a) :: l) r M = rn 93 222 (some (.ref a) :: l) (.ref a :: r) M := r_aload_n (by decide +kernel : decode (mB 93) 221 = .ok (.aload_n 0, 1)) rfl
theorem t93_222 : rn 93 222 ls (.ref a :: r) M = if mK M a = (10, 0) then rn 93 225 ls (va_rf (mP M a 3) :: r) M else none := r_getP (ci := 0) (k := 3) (by decide +kernel : decode (mB 93) 222 = .ok (.getfield 32, 3)) (by decide +kernel) rfl
theorem t93_225 : rn 93 225 ls (.ref a :: r) M = if mK M a = (16, 0) then rn 93 228 ls (.int (mI M a 3) :: r) M else none := r_getI (ci := 6) (k := 3) (by decide +kernel : decode (mB 93) 225 = .ok (.getfield 264, 3)) (by decide +kernel) (Or.inl rfl)
theorem t93_228 : rn 93 228 (some (.ref a) :: l) r M = rn 93 229 (some (.ref a) :: l) (.ref a :: r) M := r_aload_n (by decide +kernel : decode (mB 93) 228 = .ok (.aload_n 0, 1)) rfl
theorem t93_229 : rn 93 229 ls (.ref a :: r) M = if mK M a = (10, 0) then rn 93 232 ls (va_rf (mP M a 3) :: r) M else none := r_getP (ci := 0) (k := 3) (by decide +kernel : decode (mB 93) 229 = .ok (.getfield 32, 3)) (by decide +kernel) rfl
theorem t93_232 : rn 93 232 ls (.ref a :: r) M = if mK M a = (16, 0) then rn 93 235 ls (.int (mI M a 4) :: r) M else none := r_getI (ci := 6) (k := 4) (by decide +kernel : decode (mB 93) 232 = .ok (.getfield 267, 3)) (by decide +kernel) (Or.inl rfl)
theorem t93_235 : rn 93 235 ls [.int x, .int y, .ref a] M = if mK M a = (11, 0) then cbn (cl 35 [.ref a, .int y, .int x] M) 93 238 ls [] else none := r_callV (kd := 0) (by decide +kernel : decode (mB 93) 235 = .ok (.invokevirtual 63, 3)) (by decide +kernel) ((doV_n np_35).trans rfl)
theorem t93_238 : rn 93 238 ls [.int x] M = some (some (.int x), M) := r_ireturn (by decide +kernel : decode (mB 93) 238 = .ok (.ireturn, 1)) rfl
theorem t93_239 : rn 93 239 (some (.ref a) :: l) r M = rn 93 240 (some (.ref a) :: l) (.ref a :: r) M := r_aload_n (by decide +kernel : decode (mB 93) 239 = .ok (.aload_n 0, 1)) rfl
theorem t93_240 : rn 93 240 ls (.ref a :: r) M = if mK M a = (10, 0) then rn 93 243 ls (va_rf (mP M a 0) :: r) M else none := r_getP (ci := 0) (k := 0) (by decide +kernel : decode (mB 93) 240 = .ok (.getfield 10, 3)) (by decide +kernel) rfl
theorem t93_243 : rn 93 243 ls (.ref a :: r) M = if mK M a = (11, 0) then rn 93 246 ls (va_rf (mP M a 1) :: r) M else none := r_getP (ci := 1) (k := 1) (by decide +kernel : decode (mB 93) 243 = .ok (.getfield 73, 3)) (by decide +kernel) rfl
theorem t93_246 : rn 93 246 (some (.ref a) :: l) r M = rn 93 247 (some (.ref a) :: l) (.ref a :: r) M := r_aload_n (by decide +kernel : decode (mB 93) 246 = .ok (.aload_n 0, 1)) rfl
theorem t93_247 : rn 93 247 ls (.ref a :: r) M = if mK M a = (10, 0) then rn 93 250 ls (va_rf (mP M a 0) :: r) M else none := r_getP (ci := 0) (k := 0) (by decide +kernel : decode (mB 93) 247 = .ok (.getfield 10, 3)) (by decide +kernel) rfl
theorem t93_250 : rn 93 250 ls (.ref a :: r) M = if mK M a = (11, 0) then rn 93 253 ls (va_rf (mP M a 0) :: r) M else none := r_getP (ci := 1) (k := 0) (by decide +kernel : decode (mB 93) 250 = .ok (.getfield 89, 3)) (by decide +kernel) rfl
theorem t93_253 : rn 93 253 ls [.ref a, .ref b] M = if mK M b = (13, 0) then cbn (cl 47 [.ref b, .ref a] M) 93 256 ls [] else none := r_callV (kd := 0) (by decide +kernel : decode (mB 93) 253 = .ok (.invokevirtual 93, 3)) (by decide +kernel) ((doV_n np_47).trans rfl)
theorem t93_256 : rn 93 256 ls [.int x] M = some (some (.int x), M) := r_ireturn (by decide +kernel : decode (mB 93) 256 = .ok (.ireturn, 1)) rfl
theorem t93_257 : rn 93 257 ls r M = rn 93 259 ls (.int (-3) :: r) M := r_nx (by decide +kernel : decode (mB 93) 257 = .ok (.bipush (-3), 2)) rfl rfl
theorem t93_259 : rn 93 259 ls [.int x] M = some (some (.int x), M) := r_ireturn (by decide +kernel : decode (mB 93) 259 = .ok (.ireturn, 1)) rfl
-- 94 DR_undo()I
theorem t94_0 : rn 94 0 (some (.ref a) :: l) r M = rn 94 1 (some (.ref a) :: l) (.ref a :: r) M := r_aload_n (by decide +kernel : decode (mB 94) 0 = .ok (.aload_n 0, 1)) rfl
theorem t94_1 : rn 94 1 ls (.ref a :: r) M = if mK M a = (10, 0) then rn 94 4 ls (va_rf (mP M a 1) :: r) M else none := r_getP (ci := 0) (k := 1) (by decide +kernel : decode (mB 94) 1 = .ok (.getfield 19, 3)) (by decide +kernel) rfl
theorem t94_4 : rn 94 4 (some (.ref a) :: l) r M = rn 94 5 (some (.ref a) :: l) (.ref a :: r) M := r_aload_n (by decide +kernel : decode (mB 94) 4 = .ok (.aload_n 0, 1)) rfl
theorem t94_5 : rn 94 5 ls (.ref a :: r) M = if mK M a = (10, 0) then rn 94 8 ls (va_rf (mP M a 0) :: r) M else none := r_getP (ci := 0) (k := 0) (by decide +kernel : decode (mB 94) 5 = .ok (.getfield 10, 3)) (by decide +kernel) rfl
theorem t94_8 : rn 94 8 ls [.ref a, .ref b] M = if mK M b = (15, 0) then cbn (cl 95 [.ref b, .ref a] M) 94 11 ls [] else none := r_callV (kd := 0) (by decide +kernel : decode (mB 94) 8 = .ok (.invokevirtual 241, 3)) (by decide +kernel) ((doV_n np_95).trans rfl)
theorem t94_11 : rn 94 11 ls [.int x] M = some (some (.int x), M) := r_ireturn (by decide +kernel : decode (mB 94) 11 = .ok (.ireturn, 1)) rfl
-- 96 DR_save(I)I
theorem t96_0 : rn 96 0 (a0 :: some (.int x) :: l) r M = rn 96 1 (a0 :: some (.int x) :: l) (.int x :: r) M := r_iload_n (by decide +kernel : decode (mB 96) 0 = .ok (.iload_n 1, 1)) rfl
theorem t96_1 : rn 96 1 ls [.int x] M = cbn (cl 97 [.int x] M) 96 4 ls [] := r_callS (kd := 2) (by decide +kernel : decode (mB 96) 1 = .ok (.invokestatic 245, 3)) (by decide +kernel) (by decide +kernel) ((doS_n np_97).trans rfl)
theorem t96_4 : rn 96 4 ls (.int x :: r) M = if ¬ x = 0 then rn 96 10 ls r M else rn 96 7 ls r M := r_if (o := 6) (r := r) (c := ¬ x = 0) (by decide +kernel : decode (mB 96) 4 = .ok (.ifCond .ne 6, 3)) rfl (by decide) rfl
theorem t96_7 : rn 96 7 ls r M = rn 96 9 ls (.int (-2) :: r) M := r_nx (by decide +kernel : decode (mB 96) 7 = .ok (.bipush (-2), 2)) rfl rfl
theorem t96_9 : rn 96 9 ls [.int x] M = some (some (.int x), M) := r_ireturn (by decide +kernel : decode (mB 96) 9 = .ok (.ireturn, 1)) rfl
theorem t96_10 : rn 96 10 (some (.ref a) :: l) r M = rn 96 11 (some (.ref a) :: l) (.ref a :: r) M := r_aload_n (by decide +kernel : decode (mB 96) 10 = .ok (.aload_n 0, 1)) rfl
theorem t96_11 : rn 96 11 ls (.ref a :: r) M = if mK M a = (10, 0) then rn 96 14 ls (va_rf (mP M a 2) :: r) M else none := r_getP (ci := 0) (k := 2) (by decide +kernel : decode (mB 96) 11 = .ok (.getfield 25, 3)) (by decide +kernel) rfl
theorem t96_14 : rn 96 14 (a0 :: some (.int x) :: l) r M = rn 96 15 (a0 :: some (.int x) :: l) (.int x :: r) M := r_iload_n (by decide +kernel : decode (mB 96) 14 = .ok (.iload_n 1, 1)) rfl
theorem t96_15 : rn 96 15 ls (.int x :: .ref a :: r) M = if ((mK M a).1 = 3 ∨ (mK M a).1 = 4) ∧ inR x (mK M a).2 then rn 96 16 ls (va_rf (mP M a x.toNatClampNeg) :: r) M else none := r_cnd (by decide +kernel : decode (mB 96) 15 = .ok (.aaload, 1)) rfl rfl
theorem t96_16 : rn 96 16 ls (.ref a :: r) M = if mK M a = (18, 0) then rn 96 19 ls (va_rf (mP M a 0) :: r) M else none := r_getP (ci := 8) (k := 0) (by decide +kernel : decode (mB 96) 16 = .ok (.getfield 248, 3)) (by decide +kernel) rfl
theorem t96_19 : rn 96 19 (some (.ref a) :: l) r M = rn 96 20 (some (.ref a) :: l) (.ref a :: r) M := r_aload_n (by decide +kernel : decode (mB 96) 19 = .ok (.aload_n 0, 1)) rfl
theorem t96_20 : rn 96 20 ls (.ref a :: r) M = if mK M a = (10, 0) then rn 96 23 ls (va_rf (mP M a 0) :: r) M else none := r_getP (ci := 0) (k := 0) (by decide +kernel : decode (mB 96) 20 = .ok (.getfield 10, 3)) (by decide +kernel) rfl
theorem t96_23 : rn 96 23 ls [.ref a, .ref b] M = if mK M b = (11, 0) then cbn (cl 14 [.ref b, .ref a] M) 96 26 ls [] else none := r_callV (kd := 0) (by decide +kernel : decode (mB 96) 23 = .ok (.invokevirtual 251, 3)) (by decide +kernel) ((doV_n np_14).trans rfl)
theorem t96_26 : rn 96 26 (some (.ref a) :: l) r M = rn 96 27 (some (.ref a) :: l) (.ref a :: r) M := r_aload_n (by decide +kernel : decode (mB 96) 26 = .ok (.aload_n 0, 1)) rfl
theorem t96_27 : rn 96 27 ls (.ref a :: r) M = if mK M a = (10, 0) then rn 96 30 ls (va_rf (mP M a 2) :: r) M else none := r_getP (ci := 0) (k := 2) (by decide +kernel : decode (mB 96) 27 = .ok (.getfield 25, 3)) (by decide +kernel) rfl
theorem t96_30 : rn 96 30 (a0 :: some (.int x) :: l) r M = rn 96 31 (a0 :: some (.int x) :: l) (.int x :: r) M := r_iload_n (by decide +kernel : decode (mB 96) 30 = .ok (.iload_n 1, 1)) rfl
theorem t96_31 : rn 96 31 ls (.int x :: .ref a :: r) M = if ((mK M a).1 = 3 ∨ (mK M a).1 = 4) ∧ inR x (mK M a).2 then rn 96 32 ls (va_rf (mP M a x.toNatClampNeg) :: r) M else none := r_cnd (by decide +kernel : decode (mB 96) 31 = .ok (.aaload, 1)) rfl rfl
theorem t96_32 : rn 96 32 ls r M = rn 96 33 ls (.int 1 :: r) M := r_nx (by decide +kernel : decode (mB 96) 32 = .ok (.iconst 1, 1)) rfl rfl
theorem t96_33 (hx : x = 0 ∨ x = 1) : rn 96 33 ls (.int x :: .ref a :: r) M = if mK M a = (18, 0) then rn 96 36 ls r (sI M a (va_up (mI M a) 1 x)) else none := r_putZ (ci := 8) (k := 1) (by decide +kernel : decode (mB 96) 33 = .ok (.putfield 254, 3)) (by decide +kernel) rfl rfl hx
theorem t96_36 : rn 96 36 (some (.ref a) :: l) r M = rn 96 37 (some (.ref a) :: l) (.ref a :: r) M := r_aload_n (by decide +kernel : decode (mB 96) 36 = .ok (.aload_n 0, 1)) rfl
theorem t96_37 : rn 96 37 ls (.ref a :: r) M = if mK M a = (10, 0) then rn 96 40 ls (va_rf (mP M a 0) :: r) M else none := r_getP (ci := 0) (k := 0) (by decide +kernel : decode (mB 96) 37 = .ok (.getfield 10, 3)) (by decide +kernel) rfl
theorem t96_40 : rn 96 40 ls (.ref a :: r) M = if mK M a = (11, 0) then rn 96 43 ls (va_rf (mP M a 0) :: r) M else none := r_getP (ci := 1) (k := 0) (by decide +kernel : decode (mB 96) 40 = .ok (.getfield 89, 3)) (by decide +kernel) rfl
theorem t96_43 : rn 96 43 ls (.ref a :: r) M = if mK M a = (12, 0) then rn 96 46 ls (.int (mI M a 0) :: r) M else none := r_getI (ci := 2) (k := 0) (by decide +kernel : decode (mB 96) 43 = .ok (.getfield 164, 3)) (by decide +kernel) (Or.inl rfl)
theorem t96_46 : rn 96 46 ls [.int x] M = some (some (.int x), M) := r_ireturn (by decide +kernel : decode (mB 96) 46 = .ok (.ireturn, 1)) rfl
-- 97 DR_isSlot(I)Z
theorem t97_0 : rn 97 0 (some (.int x) :: l) r M = rn 97 1 (some (.int x) :: l) (.int x :: r) M := r_iload_n (by decide +kernel : decode (mB 97) 0 = .ok (.iload_n 0, 1)) rfl
theorem t97_1 : rn 97 1 ls (.int x :: r) M = if x < 0 then rn 97 13 ls r M else rn 97 4 ls r M := r_if (o := 12) (r := r) (c := x < 0) (by decide +kernel : decode (mB 97) 1 = .ok (.ifCond .lt 12, 3)) rfl (by decide) rfl
theorem t97_4 : rn 97 4 (some (.int x) :: l) r M = rn 97 5 (some (.int x) :: l) (.int x :: r) M := r_iload_n (by decide +kernel : decode (mB 97) 4 = .ok (.iload_n 0, 1)) rfl
theorem t97_5 : rn 97 5 ls r M = rn 97 6 ls (.int 2 :: r) M := r_nx (by decide +kernel : decode (mB 97) 5 = .ok (.iconst 2, 1)) rfl rfl
theorem t97_6 : rn 97 6 ls (.int y :: .int x :: r) M = if y ≤ x then rn 97 13 ls r M else rn 97 9 ls r M := r_if (o := 7) (r := r) (c := y ≤ x) (by decide +kernel : decode (mB 97) 6 = .ok (.if_icmp .ge 7, 3)) rfl (by decide) rfl
theorem t97_9 : rn 97 9 ls r M = rn 97 10 ls (.int 1 :: r) M := r_nx (by decide +kernel : decode (mB 97) 9 = .ok (.iconst 1, 1)) rfl rfl
theorem t97_10 : rn 97 10 ls r M = rn 97 14 ls r M := r_goto (o := 4) (by decide +kernel : decode (mB 97) 10 = .ok (.goto 4, 3)) (by decide)
theorem t97_13 : rn 97 13 ls r M = rn 97 14 ls (.int 0 :: r) M := r_nx (by decide +kernel : decode (mB 97) 13 = .ok (.iconst 0, 1)) rfl rfl
theorem t97_14 : rn 97 14 ls [.int x] M = if x = 0 ∨ x = 1 then some (some (.int x), M) else none := r_zreturn (by decide +kernel : decode (mB 97) 14 = .ok (.ireturn, 1)) rfl
-- 98 DR_restore(I)I
theorem t98_0 : rn 98 0 (a0 :: some (.int x) :: l) r M = rn 98 1 (a0 :: some (.int x) :: l) (.int x :: r) M := r_iload_n (by decide +kernel : decode (mB 98) 0 = .ok (.iload_n 1, 1)) rfl
theorem t98_1 : rn 98 1 ls [.int x] M = cbn (cl 97 [.int x] M) 98 4 ls [] := r_callS (kd := 2) (by decide +kernel : decode (mB 98) 1 = .ok (.invokestatic 245, 3)) (by decide +kernel) (by decide +kernel) ((doS_n np_97).trans rfl)
theorem t98_4 : rn 98 4 ls (.int x :: r) M = if ¬ x = 0 then rn 98 10 ls r M else rn 98 7 ls r M := r_if (o := 6) (r := r) (c := ¬ x = 0) (by decide +kernel : decode (mB 98) 4 = .ok (.ifCond .ne 6, 3)) rfl (by decide) rfl
theorem t98_7 : rn 98 7 ls r M = rn 98 9 ls (.int (-2) :: r) M := r_nx (by decide +kernel : decode (mB 98) 7 = .ok (.bipush (-2), 2)) rfl rfl
theorem t98_9 : rn 98 9 ls [.int x] M = some (some (.int x), M) := r_ireturn (by decide +kernel : decode (mB 98) 9 = .ok (.ireturn, 1)) rfl
theorem t98_10 : rn 98 10 (some (.ref a) :: l) r M = rn 98 11 (some (.ref a) :: l) (.ref a :: r) M := r_aload_n (by decide +kernel : decode (mB 98) 10 = .ok (.aload_n 0, 1)) rfl
theorem t98_11 : rn 98 11 ls (.ref a :: r) M = if mK M a = (10, 0) then rn 98 14 ls (va_rf (mP M a 2) :: r) M else none := r_getP (ci := 0) (k := 2) (by decide +kernel : decode (mB 98) 11 = .ok (.getfield 25, 3)) (by decide +kernel) rfl
theorem t98_14 : rn 98 14 (a0 :: some (.int x) :: l) r M = rn 98 15 (a0 :: some (.int x) :: l) (.int x :: r) M := r_iload_n (by decide +kernel : decode (mB 98) 14 = .ok (.iload_n 1, 1)) rfl
theorem t98_15 : rn 98 15 ls (.int x :: .ref a :: r) M = if ((mK M a).1 = 3 ∨ (mK M a).1 = 4) ∧ inR x (mK M a).2 then rn 98 16 ls (va_rf (mP M a x.toNatClampNeg) :: r) M else none := r_cnd (by decide +kernel : decode (mB 98) 15 = .ok (.aaload, 1)) rfl rfl
theorem t98_16 : rn 98 16 ls (.ref a :: r) M = if mK M a = (18, 0) then rn 98 19 ls (.int (mI M a 1) :: r) M else none := r_getI (ci := 8) (k := 1) (by decide +kernel : decode (mB 98) 16 = .ok (.getfield 254, 3)) (by decide +kernel) (Or.inr rfl)
theorem t98_19 : rn 98 19 ls (.int x :: r) M = if ¬ x = 0 then rn 98 25 ls r M else rn 98 22 ls r M := r_if (o := 6) (r := r) (c := ¬ x = 0) (by decide +kernel : decode (mB 98) 19 = .ok (.ifCond .ne 6, 3)) rfl (by decide) rfl
theorem t98_22 : rn 98 22 ls r M = rn 98 24 ls (.int (-5) :: r) M := r_nx (by decide +kernel : decode (mB 98) 22 = .ok (.bipush (-5), 2)) rfl rfl
theorem t98_24 : rn 98 24 ls [.int x] M = some (some (.int x), M) := r_ireturn (by decide +kernel : decode (mB 98) 24 = .ok (.ireturn, 1)) rfl
theorem t98_25 : rn 98 25 (some (.ref a) :: l) r M = rn 98 26 (some (.ref a) :: l) (.ref a :: r) M := r_aload_n (by decide +kernel : decode (mB 98) 25 = .ok (.aload_n 0, 1)) rfl
theorem t98_26 : rn 98 26 ls (.ref a :: r) M = if mK M a = (10, 0) then rn 98 29 ls (va_rf (mP M a 1) :: r) M else none := r_getP (ci := 0) (k := 1) (by decide +kernel : decode (mB 98) 26 = .ok (.getfield 19, 3)) (by decide +kernel) rfl
theorem t98_29 : rn 98 29 (some (.ref a) :: l) r M = rn 98 30 (some (.ref a) :: l) (.ref a :: r) M := r_aload_n (by decide +kernel : decode (mB 98) 29 = .ok (.aload_n 0, 1)) rfl
theorem t98_30 : rn 98 30 ls (.ref a :: r) M = if mK M a = (10, 0) then rn 98 33 ls (va_rf (mP M a 0) :: r) M else none := r_getP (ci := 0) (k := 0) (by decide +kernel : decode (mB 98) 30 = .ok (.getfield 10, 3)) (by decide +kernel) rfl
theorem t98_33 : rn 98 33 ls [.ref a, .ref b] M = if mK M b = (15, 0) then cbn (cl 13 [.ref b, .ref a] M) 98 36 ls [] else none := r_callV (kd := 0) (by decide +kernel : decode (mB 98) 33 = .ok (.invokevirtual 51, 3)) (by decide +kernel) ((doV_n np_13).trans rfl)
theorem t98_36 : rn 98 36 (some (.ref a) :: l) r M = rn 98 37 (some (.ref a) :: l) (.ref a :: r) M := r_aload_n (by decide +kernel : decode (mB 98) 36 = .ok (.aload_n 0, 1)) rfl
theorem t98_37 : rn 98 37 ls (.ref a :: r) M = if mK M a = (10, 0) then rn 98 40 ls (va_rf (mP M a 0) :: r) M else none := r_getP (ci := 0) (k := 0) (by decide +kernel : decode (mB 98) 37 = .ok (.getfield 10, 3)) (by decide +kernel) rfl
theorem t98_40 : rn 98 40 (some (.ref a) :: l) r M = rn 98 41 (some (.ref a) :: l) (.ref a :: r) M := r_aload_n (by decide +kernel : decode (mB 98) 40 = .ok (.aload_n 0, 1)) rfl
theorem t98_41 : rn 98 41 ls (.ref a :: r) M = if mK M a = (10, 0) then rn 98 44 ls (va_rf (mP M a 2) :: r) M else none := r_getP (ci := 0) (k := 2) (by decide +kernel : decode (mB 98) 41 = .ok (.getfield 25, 3)) (by decide +kernel) rfl
theorem t98_44 : rn 98 44 (a0 :: some (.int x) :: l) r M = rn 98 45 (a0 :: some (.int x) :: l) (.int x :: r) M := r_iload_n (by decide +kernel : decode (mB 98) 44 = .ok (.iload_n 1, 1)) rfl
theorem t98_45 : rn 98 45 ls (.int x :: .ref a :: r) M = if ((mK M a).1 = 3 ∨ (mK M a).1 = 4) ∧ inR x (mK M a).2 then rn 98 46 ls (va_rf (mP M a x.toNatClampNeg) :: r) M else none := r_cnd (by decide +kernel : decode (mB 98) 45 = .ok (.aaload, 1)) rfl rfl
theorem t98_46 : rn 98 46 ls (.ref a :: r) M = if mK M a = (18, 0) then rn 98 49 ls (va_rf (mP M a 0) :: r) M else none := r_getP (ci := 8) (k := 0) (by decide +kernel : decode (mB 98) 46 = .ok (.getfield 248, 3)) (by decide +kernel) rfl
theorem t98_49 : rn 98 49 ls [.ref a, .ref b] M = if mK M b = (11, 0) then cbn (cl 14 [.ref b, .ref a] M) 98 52 ls [] else none := r_callV (kd := 0) (by decide +kernel : decode (mB 98) 49 = .ok (.invokevirtual 251, 3)) (by decide +kernel) ((doV_n np_14).trans rfl)
theorem t98_52 : rn 98 52 (some (.ref a) :: l) r M = rn 98 53 (some (.ref a) :: l) (.ref a :: r) M := r_aload_n (by decide +kernel : decode (mB 98) 52 = .ok (.aload_n 0, 1)) rfl
theorem t98_53 : rn 98 53 (some (.ref a) :: l) r M = rn 98 54 (some (.ref a) :: l) (.ref a :: r) M := r_aload_n (by decide +kernel : decode (mB 98) 53 = .ok (.aload_n 0, 1)) rfl
theorem t98_54 : rn 98 54 ls (.ref a :: r) M = if mK M a = (10, 0) then rn 98 57 ls (va_rf (mP M a 0) :: r) M else none := r_getP (ci := 0) (k := 0) (by decide +kernel : decode (mB 98) 54 = .ok (.getfield 10, 3)) (by decide +kernel) rfl
theorem t98_57 : rn 98 57 ls (.ref a :: r) M = if mK M a = (11, 0) then rn 98 60 ls (va_rf (mP M a 0) :: r) M else none := r_getP (ci := 1) (k := 0) (by decide +kernel : decode (mB 98) 57 = .ok (.getfield 89, 3)) (by decide +kernel) rfl
theorem t98_60 : rn 98 60 ls (.ref a :: r) M = if mK M a = (12, 0) then rn 98 63 ls (.int (mI M a 0) :: r) M else none := r_getI (ci := 2) (k := 0) (by decide +kernel : decode (mB 98) 60 = .ok (.getfield 164, 3)) (by decide +kernel) (Or.inl rfl)
theorem t98_63 : rn 98 63 ls [.int x, .ref a] M = if mK M a = (10, 0) then cbn (cl 28 [.ref a, .int x] M) 98 66 ls [] else none := r_callV (kd := 0) (by decide +kernel : decode (mB 98) 63 = .ok (.invokevirtual 59, 3)) (by decide +kernel) ((doV_n np_28).trans rfl)
theorem t98_66 : rn 98 66 ls [.int x] M = some (some (.int x), M) := r_ireturn (by decide +kernel : decode (mB 98) 66 = .ok (.ireturn, 1)) rfl
end S2
