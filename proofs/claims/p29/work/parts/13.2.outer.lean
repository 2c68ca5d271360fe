/-! step rows, by program (wip/p29/gen13.py): outer -/
section S2
variable {a0 a1 a2 a3 a4 a5 a6 a7 a8 a9 a10 a11 a12 a13 a14 a15 a16 a17 a18 a19 a20 a21 a22 a23 : Option Value} {l ls : List (Option Value)} {r : List Value} {M : SM} {x y z w p k : Int32} {u v s : Int64} {a b c d a30 a31 a32 a33 a34 : Nat}

-- 12 DR_make(II)I
theorem t12_0 : rn 12 0 (some (.ref a) :: l) r M = rn 12 1 (some (.ref a) :: l) (.ref a :: r) M := r_aload_n (by decide +kernel : decode (mB 12) 0 = .ok (.aload_n 0, 1)) rfl
theorem t12_1 : rn 12 1 ls (.ref a :: r) M = if mK M a = (10, 0) then rn 12 4 ls (va_rf (mP M a 1) :: r) M else none := r_getP (ci := 0) (k := 1) (by decide +kernel : decode (mB 12) 1 = .ok (.getfield 19, 3)) (by decide +kernel) rfl
theorem t12_4 : rn 12 4 (some (.ref a) :: l) r M = rn 12 5 (some (.ref a) :: l) (.ref a :: r) M := r_aload_n (by decide +kernel : decode (mB 12) 4 = .ok (.aload_n 0, 1)) rfl
theorem t12_5 : rn 12 5 ls (.ref a :: r) M = if mK M a = (10, 0) then rn 12 8 ls (va_rf (mP M a 0) :: r) M else none := r_getP (ci := 0) (k := 0) (by decide +kernel : decode (mB 12) 5 = .ok (.getfield 10, 3)) (by decide +kernel) rfl
theorem t12_8 : rn 12 8 ls [.ref a, .ref b] M = if mK M b = (15, 0) then cbn (cl 13 [.ref b, .ref a] M) 12 11 ls [] else none := r_callV (kd := 0) (by decide +kernel : decode (mB 12) 8 = .ok (.invokevirtual 51, 3)) (by decide +kernel) ((doV_n np_13).trans rfl)
theorem t12_11 : rn 12 11 (some (.ref a) :: l) r M = rn 12 12 (some (.ref a) :: l) (.ref a :: r) M := r_aload_n (by decide +kernel : decode (mB 12) 11 = .ok (.aload_n 0, 1)) rfl
theorem t12_12 : rn 12 12 (some (.ref a) :: l) r M = rn 12 13 (some (.ref a) :: l) (.ref a :: r) M := r_aload_n (by decide +kernel : decode (mB 12) 12 = .ok (.aload_n 0, 1)) rfl
theorem t12_13 : rn 12 13 ls (.ref a :: r) M = if mK M a = (10, 0) then rn 12 16 ls (va_rf (mP M a 0) :: r) M else none := r_getP (ci := 0) (k := 0) (by decide +kernel : decode (mB 12) 13 = .ok (.getfield 10, 3)) (by decide +kernel) rfl
theorem t12_16 : rn 12 16 ls r M = rn 12 17 ls (.int 0 :: r) M := r_nx (by decide +kernel : decode (mB 12) 16 = .ok (.iconst 0, 1)) rfl rfl
theorem t12_17 : rn 12 17 (a0 :: some (.int x) :: l) r M = rn 12 18 (a0 :: some (.int x) :: l) (.int x :: r) M := r_iload_n (by decide +kernel : decode (mB 12) 17 = .ok (.iload_n 1, 1)) rfl
theorem t12_18 : rn 12 18 (a0 :: a1 :: some (.int x) :: l) r M = rn 12 19 (a0 :: a1 :: some (.int x) :: l) (.int x :: r) M := r_iload_n (by decide +kernel : decode (mB 12) 18 = .ok (.iload_n 2, 1)) rfl
theorem t12_19 : rn 12 19 ls [.int x, .int y, .int z, .ref a, .ref b] M = if mK M a = (11, 0) then cbn (cl 18 [.ref a, .int z, .int y, .int x] M) 12 22 ls [.ref b] else none := r_callV (kd := 0) (by decide +kernel : decode (mB 12) 19 = .ok (.invokevirtual 55, 3)) (by decide +kernel) ((doV_n np_18).trans rfl)
theorem t12_22 : rn 12 22 ls [.int x, .ref a] M = if mK M a = (10, 0) then cbn (cl 28 [.ref a, .int x] M) 12 25 ls [] else none := r_callV (kd := 0) (by decide +kernel : decode (mB 12) 22 = .ok (.invokevirtual 59, 3)) (by decide +kernel) ((doV_n np_28).trans rfl)
theorem t12_25 : rn 12 25 ls [.int x] M = some (some (.int x), M) := r_ireturn (by decide +kernel : decode (mB 12) 25 = .ok (.ireturn, 1)) rfl
-- 19 DR_isFile(I)Z
theorem t19_0 : rn 19 0 (some (.int x) :: l) r M = rn 19 1 (some (.int x) :: l) (.int x :: r) M := r_iload_n (by decide +kernel : decode (mB 19) 0 = .ok (.iload_n 0, 1)) rfl
theorem t19_1 : rn 19 1 ls (.int x :: r) M = if x < 0 then rn 19 14 ls r M else rn 19 4 ls r M := r_if (o := 13) (r := r) (c := x < 0) (by decide +kernel : decode (mB 19) 1 = .ok (.ifCond .lt 13, 3)) rfl (by decide) rfl
theorem t19_4 : rn 19 4 (some (.int x) :: l) r M = rn 19 5 (some (.int x) :: l) (.int x :: r) M := r_iload_n (by decide +kernel : decode (mB 19) 4 = .ok (.iload_n 0, 1)) rfl
theorem t19_5 : rn 19 5 ls r M = rn 19 7 ls (.int 16 :: r) M := r_nx (by decide +kernel : decode (mB 19) 5 = .ok (.bipush 16, 2)) rfl rfl
theorem t19_7 : rn 19 7 ls (.int y :: .int x :: r) M = if y ≤ x then rn 19 14 ls r M else rn 19 10 ls r M := r_if (o := 7) (r := r) (c := y ≤ x) (by decide +kernel : decode (mB 19) 7 = .ok (.if_icmp .ge 7, 3)) rfl (by decide) rfl
theorem t19_10 : rn 19 10 ls r M = rn 19 11 ls (.int 1 :: r) M := r_nx (by decide +kernel : decode (mB 19) 10 = .ok (.iconst 1, 1)) rfl rfl
theorem t19_11 : rn 19 11 ls r M = rn 19 15 ls r M := r_goto (o := 4) (by decide +kernel : decode (mB 19) 11 = .ok (.goto 4, 3)) (by decide)
theorem t19_14 : rn 19 14 ls r M = rn 19 15 ls (.int 0 :: r) M := r_nx (by decide +kernel : decode (mB 19) 14 = .ok (.iconst 0, 1)) rfl rfl
theorem t19_15 : rn 19 15 ls [.int x] M = if x = 0 ∨ x = 1 then some (some (.int x), M) else none := r_zreturn (by decide +kernel : decode (mB 19) 15 = .ok (.ireturn, 1)) rfl
-- 20 DR_hasDirectory(I)Z
theorem t20_0 : rn 20 0 (some (.int x) :: l) r M = rn 20 1 (some (.int x) :: l) (.int x :: r) M := r_iload_n (by decide +kernel : decode (mB 20) 0 = .ok (.iload_n 0, 1)) rfl
theorem t20_1 : rn 20 1 ls (.int x :: r) M = if x = 0 then rn 20 9 ls r M else rn 20 4 ls r M := r_if (o := 8) (r := r) (c := x = 0) (by decide +kernel : decode (mB 20) 1 = .ok (.ifCond .eq 8, 3)) rfl (by decide) rfl
theorem t20_4 : rn 20 4 (some (.int x) :: l) r M = rn 20 5 (some (.int x) :: l) (.int x :: r) M := r_iload_n (by decide +kernel : decode (mB 20) 4 = .ok (.iload_n 0, 1)) rfl
theorem t20_5 : rn 20 5 ls r M = rn 20 6 ls (.int 2 :: r) M := r_nx (by decide +kernel : decode (mB 20) 5 = .ok (.iconst 2, 1)) rfl rfl
theorem t20_6 : rn 20 6 ls (.int y :: .int x :: r) M = if ¬ x = y then rn 20 13 ls r M else rn 20 9 ls r M := r_if (o := 7) (r := r) (c := ¬ x = y) (by decide +kernel : decode (mB 20) 6 = .ok (.if_icmp .ne 7, 3)) rfl (by decide) rfl
theorem t20_9 : rn 20 9 ls r M = rn 20 10 ls (.int 1 :: r) M := r_nx (by decide +kernel : decode (mB 20) 9 = .ok (.iconst 1, 1)) rfl rfl
theorem t20_10 : rn 20 10 ls r M = rn 20 14 ls r M := r_goto (o := 4) (by decide +kernel : decode (mB 20) 10 = .ok (.goto 4, 3)) (by decide)
theorem t20_13 : rn 20 13 ls r M = rn 20 14 ls (.int 0 :: r) M := r_nx (by decide +kernel : decode (mB 20) 13 = .ok (.iconst 0, 1)) rfl rfl
theorem t20_14 : rn 20 14 ls [.int x] M = if x = 0 ∨ x = 1 then some (some (.int x), M) else none := r_zreturn (by decide +kernel : decode (mB 20) 14 = .ok (.ireturn, 1)) rfl
-- 24 DR_bit(I)J
theorem t24_0 : rn 24 0 ls r M = rn 24 1 ls (.long 1 :: r) M := r_nx (by decide +kernel : decode (mB 24) 0 = .ok (.lconst 1, 1)) rfl rfl
theorem t24_1 : rn 24 1 (some (.int x) :: l) r M = rn 24 2 (some (.int x) :: l) (.int x :: r) M := r_iload_n (by decide +kernel : decode (mB 24) 1 = .ok (.iload_n 0, 1)) rfl
theorem t24_2 : rn 24 2 ls (.int y :: .long u :: r) M = rn 24 3 ls (.long (u <<< (y.toInt64 &&& 63)) :: r) M := r_nx (by decide +kernel : decode (mB 24) 2 = .ok (.lshl, 1)) rfl rfl
theorem t24_3 : rn 24 3 ls [.long u] M = some (some (.long u), M) := r_lreturn (by decide +kernel : decode (mB 24) 3 = .ok (.lreturn, 1)) rfl
-- 27 DR_holds(JI)Z
theorem t27_0 : rn 27 0 (some (.long u) :: none :: l) r M = rn 27 1 (some (.long u) :: none :: l) (.long u :: r) M := r_lload_n (by decide +kernel : decode (mB 27) 0 = .ok (.lload_n 0, 1)) rfl rfl
theorem t27_1 : rn 27 1 (a0 :: a1 :: some (.int x) :: l) r M = rn 27 2 (a0 :: a1 :: some (.int x) :: l) (.int x :: r) M := r_iload_n (by decide +kernel : decode (mB 27) 1 = .ok (.iload_n 2, 1)) rfl
theorem t27_2 : rn 27 2 ls [.int x, .long u] M = cbn (cl 24 [.int x] M) 27 5 ls [.long u] := r_callS (kd := 2) (by decide +kernel : decode (mB 27) 2 = .ok (.invokestatic 204, 3)) (by decide +kernel) (by decide +kernel) ((doS_n np_24).trans rfl)
theorem t27_5 : rn 27 5 ls (.long v :: .long u :: r) M = rn 27 6 ls (.long (u &&& v) :: r) M := r_nx (by decide +kernel : decode (mB 27) 5 = .ok (.land, 1)) rfl rfl
theorem t27_6 : rn 27 6 ls r M = rn 27 7 ls (.long 0 :: r) M := r_nx (by decide +kernel : decode (mB 27) 6 = .ok (.lconst 0, 1)) rfl rfl
theorem t27_7 : rn 27 7 ls (.long v :: .long u :: r) M = rn 27 8 ls (.int (lg_cmp u v) :: r) M := r_nx (by decide +kernel : decode (mB 27) 7 = .ok (.lcmp, 1)) rfl rfl
theorem t27_8 : rn 27 8 ls (.int x :: r) M = if x = 0 then rn 27 15 ls r M else rn 27 11 ls r M := r_if (o := 7) (r := r) (c := x = 0) (by decide +kernel : decode (mB 27) 8 = .ok (.ifCond .eq 7, 3)) rfl (by decide) rfl
theorem t27_11 : rn 27 11 ls r M = rn 27 12 ls (.int 1 :: r) M := r_nx (by decide +kernel : decode (mB 27) 11 = .ok (.iconst 1, 1)) rfl rfl
theorem t27_12 : rn 27 12 ls r M = rn 27 16 ls r M := r_goto (o := 4) (by decide +kernel : decode (mB 27) 12 = .ok (.goto 4, 3)) (by decide)
theorem t27_15 : rn 27 15 ls r M = rn 27 16 ls (.int 0 :: r) M := r_nx (by decide +kernel : decode (mB 27) 15 = .ok (.iconst 0, 1)) rfl rfl
theorem t27_16 : rn 27 16 ls [.int x] M = if x = 0 ∨ x = 1 then some (some (.int x), M) else none := r_zreturn (by decide +kernel : decode (mB 27) 16 = .ok (.ireturn, 1)) rfl
-- 28 DR_recorded(I)I
theorem t28_0 : rn 28 0 (a0 :: some (.int x) :: l) r M = rn 28 1 (a0 :: some (.int x) :: l) (.int x :: r) M := r_iload_n (by decide +kernel : decode (mB 28) 0 = .ok (.iload_n 1, 1)) rfl
theorem t28_1 : rn 28 1 ls (.int x :: r) M = if x < 0 then rn 28 11 ls r M else rn 28 4 ls r M := r_if (o := 10) (r := r) (c := x < 0) (by decide +kernel : decode (mB 28) 1 = .ok (.ifCond .lt 10, 3)) rfl (by decide) rfl
theorem t28_4 : rn 28 4 (some (.ref a) :: l) r M = rn 28 5 (some (.ref a) :: l) (.ref a :: r) M := r_aload_n (by decide +kernel : decode (mB 28) 4 = .ok (.aload_n 0, 1)) rfl
theorem t28_5 : rn 28 5 ls (.ref a :: r) M = if mK M a = (10, 0) then rn 28 8 ls (va_rf (mP M a 1) :: r) M else none := r_getP (ci := 0) (k := 1) (by decide +kernel : decode (mB 28) 5 = .ok (.getfield 19, 3)) (by decide +kernel) rfl
theorem t28_8 : rn 28 8 ls [.ref a] M = if mK M a = (15, 0) then cbn (cl 29 [.ref a] M) 28 11 ls [] else none := r_callV (kd := 0) (by decide +kernel : decode (mB 28) 8 = .ok (.invokevirtual 258, 3)) (by decide +kernel) ((doV_n np_29).trans rfl)
theorem t28_11 : rn 28 11 (a0 :: some (.int x) :: l) r M = rn 28 12 (a0 :: some (.int x) :: l) (.int x :: r) M := r_iload_n (by decide +kernel : decode (mB 28) 11 = .ok (.iload_n 1, 1)) rfl
theorem t28_12 : rn 28 12 ls [.int x] M = some (some (.int x), M) := r_ireturn (by decide +kernel : decode (mB 28) 12 = .ok (.ireturn, 1)) rfl
-- 31 DR_write(II)I
theorem t31_0 : rn 31 0 (some (.ref a) :: l) r M = rn 31 1 (some (.ref a) :: l) (.ref a :: r) M := r_aload_n (by decide +kernel : decode (mB 31) 0 = .ok (.aload_n 0, 1)) rfl
theorem t31_1 : rn 31 1 ls (.ref a :: r) M = if mK M a = (10, 0) then rn 31 4 ls (va_rf (mP M a 1) :: r) M else none := r_getP (ci := 0) (k := 1) (by decide +kernel : decode (mB 31) 1 = .ok (.getfield 19, 3)) (by decide +kernel) rfl
theorem t31_4 : rn 31 4 (some (.ref a) :: l) r M = rn 31 5 (some (.ref a) :: l) (.ref a :: r) M := r_aload_n (by decide +kernel : decode (mB 31) 4 = .ok (.aload_n 0, 1)) rfl
theorem t31_5 : rn 31 5 ls (.ref a :: r) M = if mK M a = (10, 0) then rn 31 8 ls (va_rf (mP M a 0) :: r) M else none := r_getP (ci := 0) (k := 0) (by decide +kernel : decode (mB 31) 5 = .ok (.getfield 10, 3)) (by decide +kernel) rfl
theorem t31_8 : rn 31 8 ls [.ref a, .ref b] M = if mK M b = (15, 0) then cbn (cl 13 [.ref b, .ref a] M) 31 11 ls [] else none := r_callV (kd := 0) (by decide +kernel : decode (mB 31) 8 = .ok (.invokevirtual 51, 3)) (by decide +kernel) ((doV_n np_13).trans rfl)
theorem t31_11 : rn 31 11 (some (.ref a) :: l) r M = rn 31 12 (some (.ref a) :: l) (.ref a :: r) M := r_aload_n (by decide +kernel : decode (mB 31) 11 = .ok (.aload_n 0, 1)) rfl
theorem t31_12 : rn 31 12 (some (.ref a) :: l) r M = rn 31 13 (some (.ref a) :: l) (.ref a :: r) M := r_aload_n (by decide +kernel : decode (mB 31) 12 = .ok (.aload_n 0, 1)) rfl
theorem t31_13 : rn 31 13 ls (.ref a :: r) M = if mK M a = (10, 0) then rn 31 16 ls (va_rf (mP M a 0) :: r) M else none := r_getP (ci := 0) (k := 0) (by decide +kernel : decode (mB 31) 13 = .ok (.getfield 10, 3)) (by decide +kernel) rfl
theorem t31_16 : rn 31 16 ls r M = rn 31 17 ls (.int 1 :: r) M := r_nx (by decide +kernel : decode (mB 31) 16 = .ok (.iconst 1, 1)) rfl rfl
theorem t31_17 : rn 31 17 (a0 :: some (.int x) :: l) r M = rn 31 18 (a0 :: some (.int x) :: l) (.int x :: r) M := r_iload_n (by decide +kernel : decode (mB 31) 17 = .ok (.iload_n 1, 1)) rfl
theorem t31_18 : rn 31 18 (a0 :: a1 :: some (.int x) :: l) r M = rn 31 19 (a0 :: a1 :: some (.int x) :: l) (.int x :: r) M := r_iload_n (by decide +kernel : decode (mB 31) 18 = .ok (.iload_n 2, 1)) rfl
theorem t31_19 : rn 31 19 ls [.int x, .int y, .int z, .ref a, .ref b] M = if mK M a = (11, 0) then cbn (cl 18 [.ref a, .int z, .int y, .int x] M) 31 22 ls [.ref b] else none := r_callV (kd := 0) (by decide +kernel : decode (mB 31) 19 = .ok (.invokevirtual 55, 3)) (by decide +kernel) ((doV_n np_18).trans rfl)
theorem t31_22 : rn 31 22 ls [.int x, .ref a] M = if mK M a = (10, 0) then cbn (cl 28 [.ref a, .int x] M) 31 25 ls [] else none := r_callV (kd := 0) (by decide +kernel : decode (mB 31) 22 = .ok (.invokevirtual 59, 3)) (by decide +kernel) ((doV_n np_28).trans rfl)
theorem t31_25 : rn 31 25 ls [.int x] M = some (some (.int x), M) := r_ireturn (by decide +kernel : decode (mB 31) 25 = .ok (.ireturn, 1)) rfl
-- 32 DR_move(II)I
theorem t32_0 : rn 32 0 (some (.ref a) :: l) r M = rn 32 1 (some (.ref a) :: l) (.ref a :: r) M := r_aload_n (by decide +kernel : decode (mB 32) 0 = .ok (.aload_n 0, 1)) rfl
theorem t32_1 : rn 32 1 ls (.ref a :: r) M = if mK M a = (10, 0) then rn 32 4 ls (va_rf (mP M a 1) :: r) M else none := r_getP (ci := 0) (k := 1) (by decide +kernel : decode (mB 32) 1 = .ok (.getfield 19, 3)) (by decide +kernel) rfl
theorem t32_4 : rn 32 4 (some (.ref a) :: l) r M = rn 32 5 (some (.ref a) :: l) (.ref a :: r) M := r_aload_n (by decide +kernel : decode (mB 32) 4 = .ok (.aload_n 0, 1)) rfl
theorem t32_5 : rn 32 5 ls (.ref a :: r) M = if mK M a = (10, 0) then rn 32 8 ls (va_rf (mP M a 0) :: r) M else none := r_getP (ci := 0) (k := 0) (by decide +kernel : decode (mB 32) 5 = .ok (.getfield 10, 3)) (by decide +kernel) rfl
theorem t32_8 : rn 32 8 ls [.ref a, .ref b] M = if mK M b = (15, 0) then cbn (cl 13 [.ref b, .ref a] M) 32 11 ls [] else none := r_callV (kd := 0) (by decide +kernel : decode (mB 32) 8 = .ok (.invokevirtual 51, 3)) (by decide +kernel) ((doV_n np_13).trans rfl)
theorem t32_11 : rn 32 11 (some (.ref a) :: l) r M = rn 32 12 (some (.ref a) :: l) (.ref a :: r) M := r_aload_n (by decide +kernel : decode (mB 32) 11 = .ok (.aload_n 0, 1)) rfl
theorem t32_12 : rn 32 12 (some (.ref a) :: l) r M = rn 32 13 (some (.ref a) :: l) (.ref a :: r) M := r_aload_n (by decide +kernel : decode (mB 32) 12 = .ok (.aload_n 0, 1)) rfl
theorem t32_13 : rn 32 13 ls (.ref a :: r) M = if mK M a = (10, 0) then rn 32 16 ls (va_rf (mP M a 0) :: r) M else none := r_getP (ci := 0) (k := 0) (by decide +kernel : decode (mB 32) 13 = .ok (.getfield 10, 3)) (by decide +kernel) rfl
theorem t32_16 : rn 32 16 ls r M = rn 32 17 ls (.int 2 :: r) M := r_nx (by decide +kernel : decode (mB 32) 16 = .ok (.iconst 2, 1)) rfl rfl
theorem t32_17 : rn 32 17 (a0 :: some (.int x) :: l) r M = rn 32 18 (a0 :: some (.int x) :: l) (.int x :: r) M := r_iload_n (by decide +kernel : decode (mB 32) 17 = .ok (.iload_n 1, 1)) rfl
theorem t32_18 : rn 32 18 (a0 :: a1 :: some (.int x) :: l) r M = rn 32 19 (a0 :: a1 :: some (.int x) :: l) (.int x :: r) M := r_iload_n (by decide +kernel : decode (mB 32) 18 = .ok (.iload_n 2, 1)) rfl
theorem t32_19 : rn 32 19 ls [.int x, .int y, .int z, .ref a, .ref b] M = if mK M a = (11, 0) then cbn (cl 18 [.ref a, .int z, .int y, .int x] M) 32 22 ls [.ref b] else none := r_callV (kd := 0) (by decide +kernel : decode (mB 32) 19 = .ok (.invokevirtual 55, 3)) (by decide +kernel) ((doV_n np_18).trans rfl)
theorem t32_22 : rn 32 22 ls [.int x, .ref a] M = if mK M a = (10, 0) then cbn (cl 28 [.ref a, .int x] M) 32 25 ls [] else none := r_callV (kd := 0) (by decide +kernel : decode (mB 32) 22 = .ok (.invokevirtual 59, 3)) (by decide +kernel) ((doV_n np_28).trans rfl)
theorem t32_25 : rn 32 25 ls [.int x] M = some (some (.int x), M) := r_ireturn (by decide +kernel : decode (mB 32) 25 = .ok (.ireturn, 1)) rfl
-- 33 DR_drop(I)I
theorem t33_0 : rn 33 0 (some (.ref a) :: l) r M = rn 33 1 (some (.ref a) :: l) (.ref a :: r) M := r_aload_n (by decide +kernel : decode (mB 33) 0 = .ok (.aload_n 0, 1)) rfl
theorem t33_1 : rn 33 1 ls (.ref a :: r) M = if mK M a = (10, 0) then rn 33 4 ls (va_rf (mP M a 1) :: r) M else none := r_getP (ci := 0) (k := 1) (by decide +kernel : decode (mB 33) 1 = .ok (.getfield 19, 3)) (by decide +kernel) rfl
theorem t33_4 : rn 33 4 (some (.ref a) :: l) r M = rn 33 5 (some (.ref a) :: l) (.ref a :: r) M := r_aload_n (by decide +kernel : decode (mB 33) 4 = .ok (.aload_n 0, 1)) rfl
theorem t33_5 : rn 33 5 ls (.ref a :: r) M = if mK M a = (10, 0) then rn 33 8 ls (va_rf (mP M a 0) :: r) M else none := r_getP (ci := 0) (k := 0) (by decide +kernel : decode (mB 33) 5 = .ok (.getfield 10, 3)) (by decide +kernel) rfl
theorem t33_8 : rn 33 8 ls [.ref a, .ref b] M = if mK M b = (15, 0) then cbn (cl 13 [.ref b, .ref a] M) 33 11 ls [] else none := r_callV (kd := 0) (by decide +kernel : decode (mB 33) 8 = .ok (.invokevirtual 51, 3)) (by decide +kernel) ((doV_n np_13).trans rfl)
theorem t33_11 : rn 33 11 (some (.ref a) :: l) r M = rn 33 12 (some (.ref a) :: l) (.ref a :: r) M := r_aload_n (by decide +kernel : decode (mB 33) 11 = .ok (.aload_n 0, 1)) rfl
theorem t33_12 : rn 33 12 (some (.ref a) :: l) r M = rn 33 13 (some (.ref a) :: l) (.ref a :: r) M := r_aload_n (by decide +kernel : decode (mB 33) 12 = .ok (.aload_n 0, 1)) rfl
theorem t33_13 : rn 33 13 ls (.ref a :: r) M = if mK M a = (10, 0) then rn 33 16 ls (va_rf (mP M a 0) :: r) M else none := r_getP (ci := 0) (k := 0) (by decide +kernel : decode (mB 33) 13 = .ok (.getfield 10, 3)) (by decide +kernel) rfl
theorem t33_16 : rn 33 16 ls r M = rn 33 17 ls (.int 3 :: r) M := r_nx (by decide +kernel : decode (mB 33) 16 = .ok (.iconst 3, 1)) rfl rfl
theorem t33_17 : rn 33 17 (a0 :: some (.int x) :: l) r M = rn 33 18 (a0 :: some (.int x) :: l) (.int x :: r) M := r_iload_n (by decide +kernel : decode (mB 33) 17 = .ok (.iload_n 1, 1)) rfl
theorem t33_18 : rn 33 18 ls r M = rn 33 20 ls (.int (-6) :: r) M := r_nx (by decide +kernel : decode (mB 33) 18 = .ok (.bipush (-6), 2)) rfl rfl
theorem t33_20 : rn 33 20 ls [.int x, .int y, .int z, .ref a, .ref b] M = if mK M a = (11, 0) then cbn (cl 18 [.ref a, .int z, .int y, .int x] M) 33 23 ls [.ref b] else none := r_callV (kd := 0) (by decide +kernel : decode (mB 33) 20 = .ok (.invokevirtual 55, 3)) (by decide +kernel) ((doV_n np_18).trans rfl)
theorem t33_23 : rn 33 23 ls [.int x, .ref a] M = if mK M a = (10, 0) then cbn (cl 28 [.ref a, .int x] M) 33 26 ls [] else none := r_callV (kd := 0) (by decide +kernel : decode (mB 33) 23 = .ok (.invokevirtual 59, 3)) (by decide +kernel) ((doV_n np_28).trans rfl)
theorem t33_26 : rn 33 26 ls [.int x] M = some (some (.int x), M) := r_ireturn (by decide +kernel : decode (mB 33) 26 = .ok (.ireturn, 1)) rfl
-- 34 DR_need(II)I
theorem t34_0 : rn 34 0 (some (.ref a) :: l) r M = rn 34 1 (some (.ref a) :: l) (.ref a :: r) M := r_aload_n (by decide +kernel : decode (mB 34) 0 = .ok (.aload_n 0, 1)) rfl
theorem t34_1 : rn 34 1 ls (.ref a :: r) M = if mK M a = (10, 0) then rn 34 4 ls (va_rf (mP M a 1) :: r) M else none := r_getP (ci := 0) (k := 1) (by decide +kernel : decode (mB 34) 1 = .ok (.getfield 19, 3)) (by decide +kernel) rfl
theorem t34_4 : rn 34 4 (some (.ref a) :: l) r M = rn 34 5 (some (.ref a) :: l) (.ref a :: r) M := r_aload_n (by decide +kernel : decode (mB 34) 4 = .ok (.aload_n 0, 1)) rfl
theorem t34_5 : rn 34 5 ls (.ref a :: r) M = if mK M a = (10, 0) then rn 34 8 ls (va_rf (mP M a 0) :: r) M else none := r_getP (ci := 0) (k := 0) (by decide +kernel : decode (mB 34) 5 = .ok (.getfield 10, 3)) (by decide +kernel) rfl
theorem t34_8 : rn 34 8 ls [.ref a, .ref b] M = if mK M b = (15, 0) then cbn (cl 13 [.ref b, .ref a] M) 34 11 ls [] else none := r_callV (kd := 0) (by decide +kernel : decode (mB 34) 8 = .ok (.invokevirtual 51, 3)) (by decide +kernel) ((doV_n np_13).trans rfl)
theorem t34_11 : rn 34 11 (some (.ref a) :: l) r M = rn 34 12 (some (.ref a) :: l) (.ref a :: r) M := r_aload_n (by decide +kernel : decode (mB 34) 11 = .ok (.aload_n 0, 1)) rfl
theorem t34_12 : rn 34 12 (some (.ref a) :: l) r M = rn 34 13 (some (.ref a) :: l) (.ref a :: r) M := r_aload_n (by decide +kernel : decode (mB 34) 12 = .ok (.aload_n 0, 1)) rfl
theorem t34_13 : rn 34 13 ls (.ref a :: r) M = if mK M a = (10, 0) then rn 34 16 ls (va_rf (mP M a 0) :: r) M else none := r_getP (ci := 0) (k := 0) (by decide +kernel : decode (mB 34) 13 = .ok (.getfield 10, 3)) (by decide +kernel) rfl
theorem t34_16 : rn 34 16 (a0 :: some (.int x) :: l) r M = rn 34 17 (a0 :: some (.int x) :: l) (.int x :: r) M := r_iload_n (by decide +kernel : decode (mB 34) 16 = .ok (.iload_n 1, 1)) rfl
theorem t34_17 : rn 34 17 (a0 :: a1 :: some (.int x) :: l) r M = rn 34 18 (a0 :: a1 :: some (.int x) :: l) (.int x :: r) M := r_iload_n (by decide +kernel : decode (mB 34) 17 = .ok (.iload_n 2, 1)) rfl
theorem t34_18 : rn 34 18 ls [.int x, .int y, .ref a, .ref b] M = if mK M a = (11, 0) then cbn (cl 35 [.ref a, .int y, .int x] M) 34 21 ls [.ref b] else none := r_callV (kd := 0) (by decide +kernel : decode (mB 34) 18 = .ok (.invokevirtual 63, 3)) (by decide +kernel) ((doV_n np_35).trans rfl)
theorem t34_21 : rn 34 21 ls [.int x, .ref a] M = if mK M a = (10, 0) then cbn (cl 28 [.ref a, .int x] M) 34 24 ls [] else none := r_callV (kd := 0) (by decide +kernel : decode (mB 34) 21 = .ok (.invokevirtual 59, 3)) (by decide +kernel) ((doV_n np_28).trans rfl)
theorem t34_24 : rn 34 24 ls [.int x] M = some (some (.int x), M) := r_ireturn (by decide +kernel : decode (mB 34) 24 = .ok (.ireturn, 1)) rfl
-- 38 DR_lose(I)I
theorem t38_0 : rn 38 0 (some (.ref a) :: l) r M = rn 38 1 (some (.ref a) :: l) (.ref a :: r) M := r_aload_n (by decide +kernel : decode (mB 38) 0 = .ok (.aload_n 0, 1)) rfl
theorem t38_1 : rn 38 1 ls (.ref a :: r) M = if mK M a = (10, 0) then rn 38 4 ls (va_rf (mP M a 1) :: r) M else none := r_getP (ci := 0) (k := 1) (by decide +kernel : decode (mB 38) 1 = .ok (.getfield 19, 3)) (by decide +kernel) rfl
theorem t38_4 : rn 38 4 (some (.ref a) :: l) r M = rn 38 5 (some (.ref a) :: l) (.ref a :: r) M := r_aload_n (by decide +kernel : decode (mB 38) 4 = .ok (.aload_n 0, 1)) rfl
theorem t38_5 : rn 38 5 ls (.ref a :: r) M = if mK M a = (10, 0) then rn 38 8 ls (va_rf (mP M a 0) :: r) M else none := r_getP (ci := 0) (k := 0) (by decide +kernel : decode (mB 38) 5 = .ok (.getfield 10, 3)) (by decide +kernel) rfl
theorem t38_8 : rn 38 8 ls [.ref a, .ref b] M = if mK M b = (15, 0) then cbn (cl 13 [.ref b, .ref a] M) 38 11 ls [] else none := r_callV (kd := 0) (by decide +kernel : decode (mB 38) 8 = .ok (.invokevirtual 51, 3)) (by decide +kernel) ((doV_n np_13).trans rfl)
theorem t38_11 : rn 38 11 (some (.ref a) :: l) r M = rn 38 12 (some (.ref a) :: l) (.ref a :: r) M := r_aload_n (by decide +kernel : decode (mB 38) 11 = .ok (.aload_n 0, 1)) rfl
theorem t38_12 : rn 38 12 (some (.ref a) :: l) r M = rn 38 13 (some (.ref a) :: l) (.ref a :: r) M := r_aload_n (by decide +kernel : decode (mB 38) 12 = .ok (.aload_n 0, 1)) rfl
theorem t38_13 : rn 38 13 ls (.ref a :: r) M = if mK M a = (10, 0) then rn 38 16 ls (va_rf (mP M a 0) :: r) M else none := r_getP (ci := 0) (k := 0) (by decide +kernel : decode (mB 38) 13 = .ok (.getfield 10, 3)) (by decide +kernel) rfl
theorem t38_16 : rn 38 16 (a0 :: some (.int x) :: l) r M = rn 38 17 (a0 :: some (.int x) :: l) (.int x :: r) M := r_iload_n (by decide +kernel : decode (mB 38) 16 = .ok (.iload_n 1, 1)) rfl
theorem t38_17 : rn 38 17 ls [.int x, .ref a, .ref b] M = if mK M a = (11, 0) then cbn (cl 39 [.ref a, .int x] M) 38 20 ls [.ref b] else none := r_callV (kd := 0) (by decide +kernel : decode (mB 38) 17 = .ok (.invokevirtual 67, 3)) (by decide +kernel) ((doV_n np_39).trans rfl)
theorem t38_20 : rn 38 20 ls [.int x, .ref a] M = if mK M a = (10, 0) then cbn (cl 28 [.ref a, .int x] M) 38 23 ls [] else none := r_callV (kd := 0) (by decide +kernel : decode (mB 38) 20 = .ok (.invokevirtual 59, 3)) (by decide +kernel) ((doV_n np_28).trans rfl)
theorem t38_23 : rn 38 23 ls [.int x] M = some (some (.int x), M) := r_ireturn (by decide +kernel : decode (mB 38) 23 = .ok (.ireturn, 1)) rfl
-- 43 DR_find(I)I
theorem t43_0 : rn 43 0 (some (.ref a) :: l) r M = rn 43 1 (some (.ref a) :: l) (.ref a :: r) M := r_aload_n (by decide +kernel : decode (mB 43) 0 = .ok (.aload_n 0, 1)) rfl
theorem t43_1 : rn 43 1 ls (.ref a :: r) M = if mK M a = (10, 0) then rn 43 4 ls (va_rf (mP M a 1) :: r) M else none := r_getP (ci := 0) (k := 1) (by decide +kernel : decode (mB 43) 1 = .ok (.getfield 19, 3)) (by decide +kernel) rfl
theorem t43_4 : rn 43 4 (some (.ref a) :: l) r M = rn 43 5 (some (.ref a) :: l) (.ref a :: r) M := r_aload_n (by decide +kernel : decode (mB 43) 4 = .ok (.aload_n 0, 1)) rfl
theorem t43_5 : rn 43 5 ls (.ref a :: r) M = if mK M a = (10, 0) then rn 43 8 ls (va_rf (mP M a 0) :: r) M else none := r_getP (ci := 0) (k := 0) (by decide +kernel : decode (mB 43) 5 = .ok (.getfield 10, 3)) (by decide +kernel) rfl
theorem t43_8 : rn 43 8 ls [.ref a, .ref b] M = if mK M b = (15, 0) then cbn (cl 13 [.ref b, .ref a] M) 43 11 ls [] else none := r_callV (kd := 0) (by decide +kernel : decode (mB 43) 8 = .ok (.invokevirtual 51, 3)) (by decide +kernel) ((doV_n np_13).trans rfl)
theorem t43_11 : rn 43 11 (some (.ref a) :: l) r M = rn 43 12 (some (.ref a) :: l) (.ref a :: r) M := r_aload_n (by decide +kernel : decode (mB 43) 11 = .ok (.aload_n 0, 1)) rfl
theorem t43_12 : rn 43 12 (some (.ref a) :: l) r M = rn 43 13 (some (.ref a) :: l) (.ref a :: r) M := r_aload_n (by decide +kernel : decode (mB 43) 12 = .ok (.aload_n 0, 1)) rfl
theorem t43_13 : rn 43 13 ls (.ref a :: r) M = if mK M a = (10, 0) then rn 43 16 ls (va_rf (mP M a 0) :: r) M else none := r_getP (ci := 0) (k := 0) (by decide +kernel : decode (mB 43) 13 = .ok (.getfield 10, 3)) (by decide +kernel) rfl
theorem t43_16 : rn 43 16 (a0 :: some (.int x) :: l) r M = rn 43 17 (a0 :: some (.int x) :: l) (.int x :: r) M := r_iload_n (by decide +kernel : decode (mB 43) 16 = .ok (.iload_n 1, 1)) rfl
theorem t43_17 : rn 43 17 ls [.int x, .ref a, .ref b] M = if mK M a = (11, 0) then cbn (cl 44 [.ref a, .int x] M) 43 20 ls [.ref b] else none := r_callV (kd := 0) (by decide +kernel : decode (mB 43) 17 = .ok (.invokevirtual 70, 3)) (by decide +kernel) ((doV_n np_44).trans rfl)
theorem t43_20 : rn 43 20 ls [.int x, .ref a] M = if mK M a = (10, 0) then cbn (cl 28 [.ref a, .int x] M) 43 23 ls [] else none := r_callV (kd := 0) (by decide +kernel : decode (mB 43) 20 = .ok (.invokevirtual 59, 3)) (by decide +kernel) ((doV_n np_28).trans rfl)
theorem t43_23 : rn 43 23 ls [.int x] M = some (some (.int x), M) := r_ireturn (by decide +kernel : decode (mB 43) 23 = .ok (.ireturn, 1)) rfl
-- 45 DR_beginAnew()I
theorem t45_0 : rn 45 0 (some (.ref a) :: l) r M = rn 45 1 (some (.ref a) :: l) (.ref a :: r) M := r_aload_n (by decide +kernel : decode (mB 45) 0 = .ok (.aload_n 0, 1)) rfl
theorem t45_1 : rn 45 1 ls (.ref a :: r) M = if mK M a = (10, 0) then rn 45 4 ls (va_rf (mP M a 1) :: r) M else none := r_getP (ci := 0) (k := 1) (by decide +kernel : decode (mB 45) 1 = .ok (.getfield 19, 3)) (by decide +kernel) rfl
theorem t45_4 : rn 45 4 (some (.ref a) :: l) r M = rn 45 5 (some (.ref a) :: l) (.ref a :: r) M := r_aload_n (by decide +kernel : decode (mB 45) 4 = .ok (.aload_n 0, 1)) rfl
theorem t45_5 : rn 45 5 ls (.ref a :: r) M = if mK M a = (10, 0) then rn 45 8 ls (va_rf (mP M a 0) :: r) M else none := r_getP (ci := 0) (k := 0) (by decide +kernel : decode (mB 45) 5 = .ok (.getfield 10, 3)) (by decide +kernel) rfl
theorem t45_8 : rn 45 8 ls [.ref a, .ref b] M = if mK M b = (15, 0) then cbn (cl 13 [.ref b, .ref a] M) 45 11 ls [] else none := r_callV (kd := 0) (by decide +kernel : decode (mB 45) 8 = .ok (.invokevirtual 51, 3)) (by decide +kernel) ((doV_n np_13).trans rfl)
theorem t45_11 : rn 45 11 (some (.ref a) :: l) r M = rn 45 12 (some (.ref a) :: l) (.ref a :: r) M := r_aload_n (by decide +kernel : decode (mB 45) 11 = .ok (.aload_n 0, 1)) rfl
theorem t45_12 : rn 45 12 ls (.ref a :: r) M = if mK M a = (10, 0) then rn 45 15 ls (va_rf (mP M a 0) :: r) M else none := r_getP (ci := 0) (k := 0) (by decide +kernel : decode (mB 45) 12 = .ok (.getfield 10, 3)) (by decide +kernel) rfl
theorem t45_15 : rn 45 15 ls (.ref a :: r) M = if mK M a = (11, 0) then rn 45 18 ls (va_rf (mP M a 1) :: r) M else none := r_getP (ci := 1) (k := 1) (by decide +kernel : decode (mB 45) 15 = .ok (.getfield 73, 3)) (by decide +kernel) rfl
theorem t45_18 : rn 45 18 ls (.ref a :: r) M = if mK M a = (13, 0) then rn 45 21 ls (.long (mJ M a 0) :: r) M else none := r_getJ (ci := 3) (k := 0) (by decide +kernel : decode (mB 45) 18 = .ok (.getfield 76, 3)) (by decide +kernel) rfl
theorem t45_21 : rn 45 21 ls [.long u] M = cbn (cl 37 [.long u] M) 45 24 ls [] := r_callS (kd := 2) (by decide +kernel : decode (mB 45) 21 = .ok (.invokestatic 80, 3)) (by decide +kernel) (by decide +kernel) ((doS_n np_37).trans rfl)
theorem t45_24 : rn 45 24 (a0 :: a1 :: l) (.int x :: r) M = rn 45 25 (a0 :: some (.int x) :: l) r M := r_istore_n (by decide +kernel : decode (mB 45) 24 = .ok (.istore_n 1, 1)) (Nat.le_add_left 2 l.length)
theorem t45_25 : rn 45 25 (some (.ref a) :: l) r M = rn 45 26 (some (.ref a) :: l) (.ref a :: r) M := r_aload_n (by decide +kernel : decode (mB 45) 25 = .ok (.aload_n 0, 1)) rfl
theorem t45_26 : rn 45 26 ls (.ref a :: r) M = if mK M a = (10, 0) then rn 45 29 ls (va_rf (mP M a 0) :: r) M else none := r_getP (ci := 0) (k := 0) (by decide +kernel : decode (mB 45) 26 = .ok (.getfield 10, 3)) (by decide +kernel) rfl
theorem t45_29 : rn 45 29 ls (.ref a :: r) M = if mK M a = (11, 0) then rn 45 32 ls (va_rf (mP M a 1) :: r) M else none := r_getP (ci := 1) (k := 1) (by decide +kernel : decode (mB 45) 29 = .ok (.getfield 73, 3)) (by decide +kernel) rfl
theorem t45_32 : rn 45 32 ls [.ref a] M = if mK M a = (13, 0) then cbn (cl 7 [.ref a] M) 45 35 ls [] else none := r_callV (kd := 0) (by decide +kernel : decode (mB 45) 32 = .ok (.invokevirtual 86, 3)) (by decide +kernel) ((doV_n np_7).trans rfl)
theorem t45_35 : rn 45 35 (some (.ref a) :: l) r M = rn 45 36 (some (.ref a) :: l) (.ref a :: r) M := r_aload_n (by decide +kernel : decode (mB 45) 35 = .ok (.aload_n 0, 1)) rfl
theorem t45_36 : rn 45 36 (a0 :: some (.int x) :: l) r M = rn 45 37 (a0 :: some (.int x) :: l) (.int x :: r) M := r_iload_n (by decide +kernel : decode (mB 45) 36 = .ok (.iload_n 1, 1)) rfl
theorem t45_37 : rn 45 37 ls [.int x, .ref a] M = if mK M a = (10, 0) then cbn (cl 28 [.ref a, .int x] M) 45 40 ls [] else none := r_callV (kd := 0) (by decide +kernel : decode (mB 45) 37 = .ok (.invokevirtual 59, 3)) (by decide +kernel) ((doV_n np_28).trans rfl)
theorem t45_40 : rn 45 40 ls [.int x] M = some (some (.int x), M) := r_ireturn (by decide +kernel : decode (mB 45) 40 = .ok (.ireturn, 1)) rfl
-- 46 DR_round()I
theorem t46_0 : rn 46 0 (some (.ref a) :: l) r M = rn 46 1 (some (.ref a) :: l) (.ref a :: r) M := r_aload_n (by decide +kernel : decode (mB 46) 0 = .ok (.aload_n 0, 1)) rfl
theorem t46_1 : rn 46 1 ls (.ref a :: r) M = if mK M a = (10, 0) then rn 46 4 ls (va_rf (mP M a 1) :: r) M else none := r_getP (ci := 0) (k := 1) (by decide +kernel : decode (mB 46) 1 = .ok (.getfield 19, 3)) (by decide +kernel) rfl
theorem t46_4 : rn 46 4 (some (.ref a) :: l) r M = rn 46 5 (some (.ref a) :: l) (.ref a :: r) M := r_aload_n (by decide +kernel : decode (mB 46) 4 = .ok (.aload_n 0, 1)) rfl
theorem t46_5 : rn 46 5 ls (.ref a :: r) M = if mK M a = (10, 0) then rn 46 8 ls (va_rf (mP M a 0) :: r) M else none := r_getP (ci := 0) (k := 0) (by decide +kernel : decode (mB 46) 5 = .ok (.getfield 10, 3)) (by decide +kernel) rfl
theorem t46_8 : rn 46 8 ls [.ref a, .ref b] M = if mK M b = (15, 0) then cbn (cl 13 [.ref b, .ref a] M) 46 11 ls [] else none := r_callV (kd := 0) (by decide +kernel : decode (mB 46) 8 = .ok (.invokevirtual 51, 3)) (by decide +kernel) ((doV_n np_13).trans rfl)
theorem t46_11 : rn 46 11 (some (.ref a) :: l) r M = rn 46 12 (some (.ref a) :: l) (.ref a :: r) M := r_aload_n (by decide +kernel : decode (mB 46) 11 = .ok (.aload_n 0, 1)) rfl
theorem t46_12 : rn 46 12 (some (.ref a) :: l) r M = rn 46 13 (some (.ref a) :: l) (.ref a :: r) M := r_aload_n (by decide +kernel : decode (mB 46) 12 = .ok (.aload_n 0, 1)) rfl
theorem t46_13 : rn 46 13 ls (.ref a :: r) M = if mK M a = (10, 0) then rn 46 16 ls (va_rf (mP M a 0) :: r) M else none := r_getP (ci := 0) (k := 0) (by decide +kernel : decode (mB 46) 13 = .ok (.getfield 10, 3)) (by decide +kernel) rfl
theorem t46_16 : rn 46 16 ls (.ref a :: r) M = if mK M a = (11, 0) then rn 46 19 ls (va_rf (mP M a 1) :: r) M else none := r_getP (ci := 1) (k := 1) (by decide +kernel : decode (mB 46) 16 = .ok (.getfield 73, 3)) (by decide +kernel) rfl
theorem t46_19 : rn 46 19 (some (.ref a) :: l) r M = rn 46 20 (some (.ref a) :: l) (.ref a :: r) M := r_aload_n (by decide +kernel : decode (mB 46) 19 = .ok (.aload_n 0, 1)) rfl
theorem t46_20 : rn 46 20 ls (.ref a :: r) M = if mK M a = (10, 0) then rn 46 23 ls (va_rf (mP M a 0) :: r) M else none := r_getP (ci := 0) (k := 0) (by decide +kernel : decode (mB 46) 20 = .ok (.getfield 10, 3)) (by decide +kernel) rfl
theorem t46_23 : rn 46 23 ls (.ref a :: r) M = if mK M a = (11, 0) then rn 46 26 ls (va_rf (mP M a 0) :: r) M else none := r_getP (ci := 1) (k := 0) (by decide +kernel : decode (mB 46) 23 = .ok (.getfield 89, 3)) (by decide +kernel) rfl
theorem t46_26 : rn 46 26 ls [.ref a, .ref b, .ref c] M = if mK M b = (13, 0) then cbn (cl 47 [.ref b, .ref a] M) 46 29 ls [.ref c] else none := r_callV (kd := 0) (by decide +kernel : decode (mB 46) 26 = .ok (.invokevirtual 93, 3)) (by decide +kernel) ((doV_n np_47).trans rfl)
theorem t46_29 : rn 46 29 ls [.int x, .ref a] M = if mK M a = (10, 0) then cbn (cl 28 [.ref a, .int x] M) 46 32 ls [] else none := r_callV (kd := 0) (by decide +kernel : decode (mB 46) 29 = .ok (.invokevirtual 59, 3)) (by decide +kernel) ((doV_n np_28).trans rfl)
theorem t46_32 : rn 46 32 ls [.int x] M = some (some (.int x), M) := r_ireturn (by decide +kernel : decode (mB 46) 32 = .ok (.ireturn, 1)) rfl
-- 57 DR_replay()I
theorem t57_0 : rn 57 0 (some (.ref a) :: l) r M = rn 57 1 (some (.ref a) :: l) (.ref a :: r) M := r_aload_n (by decide +kernel : decode (mB 57) 0 = .ok (.aload_n 0, 1)) rfl
theorem t57_1 : rn 57 1 ls (.ref a :: r) M = if mK M a = (10, 0) then rn 57 4 ls (va_rf (mP M a 1) :: r) M else none := r_getP (ci := 0) (k := 1) (by decide +kernel : decode (mB 57) 1 = .ok (.getfield 19, 3)) (by decide +kernel) rfl
theorem t57_4 : rn 57 4 (some (.ref a) :: l) r M = rn 57 5 (some (.ref a) :: l) (.ref a :: r) M := r_aload_n (by decide +kernel : decode (mB 57) 4 = .ok (.aload_n 0, 1)) rfl
theorem t57_5 : rn 57 5 ls (.ref a :: r) M = if mK M a = (10, 0) then rn 57 8 ls (va_rf (mP M a 0) :: r) M else none := r_getP (ci := 0) (k := 0) (by decide +kernel : decode (mB 57) 5 = .ok (.getfield 10, 3)) (by decide +kernel) rfl
theorem t57_8 : rn 57 8 ls [.ref a, .ref b] M = if mK M b = (15, 0) then cbn (cl 13 [.ref b, .ref a] M) 57 11 ls [] else none := r_callV (kd := 0) (by decide +kernel : decode (mB 57) 8 = .ok (.invokevirtual 51, 3)) (by decide +kernel) ((doV_n np_13).trans rfl)
theorem t57_11 : rn 57 11 (some (.ref a) :: l) r M = rn 57 12 (some (.ref a) :: l) (.ref a :: r) M := r_aload_n (by decide +kernel : decode (mB 57) 11 = .ok (.aload_n 0, 1)) rfl
theorem t57_12 : rn 57 12 (some (.ref a) :: l) r M = rn 57 13 (some (.ref a) :: l) (.ref a :: r) M := r_aload_n (by decide +kernel : decode (mB 57) 12 = .ok (.aload_n 0, 1)) rfl
theorem t57_13 : rn 57 13 ls (.ref a :: r) M = if mK M a = (10, 0) then rn 57 16 ls (va_rf (mP M a 0) :: r) M else none := r_getP (ci := 0) (k := 0) (by decide +kernel : decode (mB 57) 13 = .ok (.getfield 10, 3)) (by decide +kernel) rfl
theorem t57_16 : rn 57 16 ls (.ref a :: r) M = if mK M a = (11, 0) then rn 57 19 ls (va_rf (mP M a 1) :: r) M else none := r_getP (ci := 1) (k := 1) (by decide +kernel : decode (mB 57) 16 = .ok (.getfield 73, 3)) (by decide +kernel) rfl
theorem t57_19 : rn 57 19 (some (.ref a) :: l) r M = rn 57 20 (some (.ref a) :: l) (.ref a :: r) M := r_aload_n (by decide +kernel : decode (mB 57) 19 = .ok (.aload_n 0, 1)) rfl
theorem t57_20 : rn 57 20 ls (.ref a :: r) M = if mK M a = (10, 0) then rn 57 23 ls (va_rf (mP M a 0) :: r) M else none := r_getP (ci := 0) (k := 0) (by decide +kernel : decode (mB 57) 20 = .ok (.getfield 10, 3)) (by decide +kernel) rfl
theorem t57_23 : rn 57 23 ls (.ref a :: r) M = if mK M a = (11, 0) then rn 57 26 ls (va_rf (mP M a 0) :: r) M else none := r_getP (ci := 1) (k := 0) (by decide +kernel : decode (mB 57) 23 = .ok (.getfield 89, 3)) (by decide +kernel) rfl
theorem t57_26 : rn 57 26 ls [.ref a, .ref b, .ref c] M = if mK M b = (13, 0) then cbn (cl 58 [.ref b, .ref a] M) 57 29 ls [.ref c] else none := r_callV (kd := 0) (by decide +kernel : decode (mB 57) 26 = .ok (.invokevirtual 97, 3)) (by decide +kernel) ((doV_n np_58).trans rfl)
theorem t57_29 : rn 57 29 ls [.int x, .ref a] M = if mK M a = (10, 0) then cbn (cl 28 [.ref a, .int x] M) 57 32 ls [] else none := r_callV (kd := 0) (by decide +kernel : decode (mB 57) 29 = .ok (.invokevirtual 59, 3)) (by decide +kernel) ((doV_n np_28).trans rfl)
theorem t57_32 : rn 57 32 ls [.int x] M = some (some (.int x), M) := r_ireturn (by decide +kernel : decode (mB 57) 32 = .ok (.ireturn, 1)) rfl
-- 70 DR_ofEntry(II)I
theorem t70_0 : rn 70 0 (some (.ref a) :: l) r M = rn 70 1 (some (.ref a) :: l) (.ref a :: r) M := r_aload_n (by decide +kernel : decode (mB 70) 0 = .ok (.aload_n 0, 1)) rfl
theorem t70_1 : rn 70 1 ls (.ref a :: r) M = if mK M a = (10, 0) then rn 70 4 ls (va_rf (mP M a 0) :: r) M else none := r_getP (ci := 0) (k := 0) (by decide +kernel : decode (mB 70) 1 = .ok (.getfield 10, 3)) (by decide +kernel) rfl
theorem t70_4 : rn 70 4 ls (.ref a :: r) M = if mK M a = (11, 0) then rn 70 7 ls (va_rf (mP M a 0) :: r) M else none := r_getP (ci := 1) (k := 0) (by decide +kernel : decode (mB 70) 4 = .ok (.getfield 89, 3)) (by decide +kernel) rfl
theorem t70_7 : rn 70 7 (a0 :: a1 :: a2 :: a3 :: l) (.ref a :: r) M = rn 70 8 (a0 :: a1 :: a2 :: some (.ref a) :: l) r M := r_astore_n (by decide +kernel : decode (mB 70) 7 = .ok (.astore_n 3, 1)) (Nat.le_add_left 4 l.length)
theorem t70_8 : rn 70 8 (a0 :: a1 :: a2 :: some (.ref a) :: l) r M = rn 70 9 (a0 :: a1 :: a2 :: some (.ref a) :: l) (.ref a :: r) M := r_aload_n (by decide +kernel : decode (mB 70) 8 = .ok (.aload_n 3, 1)) rfl
theorem t70_9 : rn 70 9 (a0 :: some (.int x) :: l) r M = rn 70 10 (a0 :: some (.int x) :: l) (.int x :: r) M := r_iload_n (by decide +kernel : decode (mB 70) 9 = .ok (.iload_n 1, 1)) rfl
theorem t70_10 : rn 70 10 ls [.int x, .ref a] M = if mK M a = (12, 0) then cbn (cl 36 [.ref a, .int x] M) 70 13 ls [] else none := r_callV (kd := 0) (by decide +kernel : decode (mB 70) 10 = .ok (.invokevirtual 100, 3)) (by decide +kernel) ((doV_n np_36).trans rfl)
theorem t70_13 : rn 70 13 ls (.int x :: r) M = if ¬ x = 0 then rn 70 18 ls r M else rn 70 16 ls r M := r_if (o := 5) (r := r) (c := ¬ x = 0) (by decide +kernel : decode (mB 70) 13 = .ok (.ifCond .ne 5, 3)) rfl (by decide) rfl
theorem t70_16 : rn 70 16 ls r M = rn 70 17 ls (.int (-1) :: r) M := r_nx (by decide +kernel : decode (mB 70) 16 = .ok (.iconst (-1), 1)) rfl rfl
theorem t70_17 : rn 70 17 ls [.int x] M = some (some (.int x), M) := r_ireturn (by decide +kernel : decode (mB 70) 17 = .ok (.ireturn, 1)) rfl
theorem t70_18 : rn 70 18 (a0 :: a1 :: some (.int x) :: l) r M = rn 70 19 (a0 :: a1 :: some (.int x) :: l) (.int x :: r) M := r_iload_n (by decide +kernel : decode (mB 70) 18 = .ok (.iload_n 2, 1)) rfl
theorem t70_19 : rn 70 19 ls (.int x :: r) M = if x = 0 then rn 70 68 ls r M else if x = 1 then rn 70 75 ls r M else if x = 2 then rn 70 82 ls r M else if x = 3 then rn 70 89 ls r M else if x = 4 then rn 70 106 ls r M else if x = 5 then rn 70 123 ls r M else if x = 6 then rn 70 136 ls r M else if x = 7 then rn 70 149 ls r M else if x = 8 then rn 70 159 ls r M else rn 70 165 ls r M := by
  have D := (by decide +kernel : decode (mB 70) 19 = .ok (.tableswitch 146 0 8 #[49, 56, 63, 70, 87, 104, 117, 130, 140], 49))
  by_cases h0 : x = 0
  · rw [h0, r_tab D]; rfl
  by_cases h1 : x = 1
  · rw [h1, r_tab D]; rfl
  by_cases h2 : x = 2
  · rw [h2, r_tab D]; rfl
  by_cases h3 : x = 3
  · rw [h3, r_tab D]; rfl
  by_cases h4 : x = 4
  · rw [h4, r_tab D]; rfl
  by_cases h5 : x = 5
  · rw [h5, r_tab D]; rfl
  by_cases h6 : x = 6
  · rw [h6, r_tab D]; rfl
  by_cases h7 : x = 7
  · rw [h7, r_tab D]; rfl
  by_cases h8 : x = 8
  · rw [h8, r_tab D]; rfl
  rw [r_tabO D (by have e0 : x.toInt ≠ 0 := ti_ne h0; have e1 : x.toInt ≠ 1 := ti_ne h1; have e2 : x.toInt ≠ 2 := ti_ne h2; have e3 : x.toInt ≠ 3 := ti_ne h3; have e4 : x.toInt ≠ 4 := ti_ne h4; have e5 : x.toInt ≠ 5 := ti_ne h5; have e6 : x.toInt ≠ 6 := ti_ne h6; have e7 : x.toInt ≠ 7 := ti_ne h7; have e8 : x.toInt ≠ 8 := ti_ne h8; omega) (by decide), if_neg h0, if_neg h1, if_neg h2, if_neg h3, if_neg h4, if_neg h5, if_neg h6, if_neg h7, if_neg h8]
  rfl
theorem t70_68 : rn 70 68 (a0 :: a1 :: a2 :: some (.ref a) :: l) r M = rn 70 69 (a0 :: a1 :: a2 :: some (.ref a) :: l) (.ref a :: r) M := r_aload_n (by decide +kernel : decode (mB 70) 68 = .ok (.aload_n 3, 1)) rfl
theorem t70_69 : rn 70 69 ls (.ref a :: r) M = if mK M a = (12, 0) then rn 70 72 ls (va_rf (mP M a 2) :: r) M else none := r_getP (ci := 2) (k := 2) (by decide +kernel : decode (mB 70) 69 = .ok (.getfield 106, 3)) (by decide +kernel) rfl
theorem t70_72 : rn 70 72 (a0 :: some (.int x) :: l) r M = rn 70 73 (a0 :: some (.int x) :: l) (.int x :: r) M := r_iload_n (by decide +kernel : decode (mB 70) 72 = .ok (.iload_n 1, 1)) rfl
theorem t70_73 : rn 70 73 ls (.int x :: .ref a :: r) M = if ((mK M a).1 = 1 ∨ (mK M a).1 = 5) ∧ inR x (mK M a).2 then rn 70 74 ls (.int (mI M a x.toNatClampNeg) :: r) M else none := r_cnd (by decide +kernel : decode (mB 70) 73 = .ok (.iaload, 1)) rfl rfl
theorem t70_74 : rn 70 74 ls [.int x] M = some (some (.int x), M) := r_ireturn (by decide +kernel : decode (mB 70) 74 = .ok (.ireturn, 1)) rfl
theorem t70_75 : rn 70 75 (a0 :: a1 :: a2 :: some (.ref a) :: l) r M = rn 70 76 (a0 :: a1 :: a2 :: some (.ref a) :: l) (.ref a :: r) M := r_aload_n (by decide +kernel : decode (mB 70) 75 = .ok (.aload_n 3, 1)) rfl
theorem t70_76 : rn 70 76 ls (.ref a :: r) M = if mK M a = (12, 0) then rn 70 79 ls (va_rf (mP M a 3) :: r) M else none := r_getP (ci := 2) (k := 3) (by decide +kernel : decode (mB 70) 76 = .ok (.getfield 110, 3)) (by decide +kernel) rfl
theorem t70_79 : rn 70 79 (a0 :: some (.int x) :: l) r M = rn 70 80 (a0 :: some (.int x) :: l) (.int x :: r) M := r_iload_n (by decide +kernel : decode (mB 70) 79 = .ok (.iload_n 1, 1)) rfl
theorem t70_80 : rn 70 80 ls (.int x :: .ref a :: r) M = if ((mK M a).1 = 1 ∨ (mK M a).1 = 5) ∧ inR x (mK M a).2 then rn 70 81 ls (.int (mI M a x.toNatClampNeg) :: r) M else none := r_cnd (by decide +kernel : decode (mB 70) 80 = .ok (.iaload, 1)) rfl rfl
theorem t70_81 : rn 70 81 ls [.int x] M = some (some (.int x), M) := r_ireturn (by decide +kernel : decode (mB 70) 81 = .ok (.ireturn, 1)) rfl
theorem t70_82 : rn 70 82 (a0 :: a1 :: a2 :: some (.ref a) :: l) r M = rn 70 83 (a0 :: a1 :: a2 :: some (.ref a) :: l) (.ref a :: r) M := r_aload_n (by decide +kernel : decode (mB 70) 82 = .ok (.aload_n 3, 1)) rfl
theorem t70_83 : rn 70 83 ls (.ref a :: r) M = if mK M a = (12, 0) then rn 70 86 ls (va_rf (mP M a 4) :: r) M else none := r_getP (ci := 2) (k := 4) (by decide +kernel : decode (mB 70) 83 = .ok (.getfield 113, 3)) (by decide +kernel) rfl
theorem t70_86 : rn 70 86 (a0 :: some (.int x) :: l) r M = rn 70 87 (a0 :: some (.int x) :: l) (.int x :: r) M := r_iload_n (by decide +kernel : decode (mB 70) 86 = .ok (.iload_n 1, 1)) rfl
theorem t70_87 : rn 70 87 ls (.int x :: .ref a :: r) M = if ((mK M a).1 = 1 ∨ (mK M a).1 = 5) ∧ inR x (mK M a).2 then rn 70 88 ls (.int (mI M a x.toNatClampNeg) :: r) M else none := r_cnd (by decide +kernel : decode (mB 70) 87 = .ok (.iaload, 1)) rfl rfl
theorem t70_88 : rn 70 88 ls [.int x] M = some (some (.int x), M) := r_ireturn (by decide +kernel : decode (mB 70) 88 = .ok (.ireturn, 1)) rfl
theorem t70_89 : rn 70 89 (a0 :: a1 :: a2 :: some (.ref a) :: l) r M = rn 70 90 (a0 :: a1 :: a2 :: some (.ref a) :: l) (.ref a :: r) M := r_aload_n (by decide +kernel : decode (mB 70) 89 = .ok (.aload_n 3, 1)) rfl
theorem t70_90 : rn 70 90 ls (.ref a :: r) M = if mK M a = (12, 0) then rn 70 93 ls (.long (mJ M a 1) :: r) M else none := r_getJ (ci := 2) (k := 1) (by decide +kernel : decode (mB 70) 90 = .ok (.getfield 116, 3)) (by decide +kernel) rfl
theorem t70_93 : rn 70 93 (a0 :: some (.int x) :: l) r M = rn 70 94 (a0 :: some (.int x) :: l) (.int x :: r) M := r_iload_n (by decide +kernel : decode (mB 70) 93 = .ok (.iload_n 1, 1)) rfl
theorem t70_94 : rn 70 94 ls [.int x, .long u] M = cbn (cl 27 [.long u, .int x] M) 70 97 ls [] := r_callS (kd := 2) (by decide +kernel : decode (mB 70) 94 = .ok (.invokestatic 119, 3)) (by decide +kernel) (by decide +kernel) ((doS_n np_27).trans rfl)
theorem t70_97 : rn 70 97 ls (.int x :: r) M = if x = 0 then rn 70 104 ls r M else rn 70 100 ls r M := r_if (o := 7) (r := r) (c := x = 0) (by decide +kernel : decode (mB 70) 97 = .ok (.ifCond .eq 7, 3)) rfl (by decide) rfl
theorem t70_100 : rn 70 100 ls r M = rn 70 101 ls (.int 1 :: r) M := r_nx (by decide +kernel : decode (mB 70) 100 = .ok (.iconst 1, 1)) rfl rfl
theorem t70_101 : rn 70 101 ls r M = rn 70 105 ls r M := r_goto (o := 4) (by decide +kernel : decode (mB 70) 101 = .ok (.goto 4, 3)) (by decide)
theorem t70_104 : rn 70 104 ls r M = rn 70 105 ls (.int 0 :: r) M := r_nx (by decide +kernel : decode (mB 70) 104 = .ok (.iconst 0, 1)) rfl rfl
theorem t70_105 : rn 70 105 ls [.int x] M = some (some (.int x), M) := r_ireturn (by decide +kernel : decode (mB 70) 105 = .ok (.ireturn, 1)) rfl
theorem t70_106 : rn 70 106 (a0 :: a1 :: a2 :: some (.ref a) :: l) r M = rn 70 107 (a0 :: a1 :: a2 :: some (.ref a) :: l) (.ref a :: r) M := r_aload_n (by decide +kernel : decode (mB 70) 106 = .ok (.aload_n 3, 1)) rfl
theorem t70_107 : rn 70 107 ls [.ref a] M = if mK M a = (12, 0) then cbn (cl 41 [.ref a] M) 70 110 ls [] else none := r_callV (kd := 0) (by decide +kernel : decode (mB 70) 107 = .ok (.invokevirtual 123, 3)) (by decide +kernel) ((doV_n np_41).trans rfl)
theorem t70_110 : rn 70 110 (a0 :: some (.int x) :: l) r M = rn 70 111 (a0 :: some (.int x) :: l) (.int x :: r) M := r_iload_n (by decide +kernel : decode (mB 70) 110 = .ok (.iload_n 1, 1)) rfl
theorem t70_111 : rn 70 111 ls [.int x, .long u] M = cbn (cl 27 [.long u, .int x] M) 70 114 ls [] := r_callS (kd := 2) (by decide +kernel : decode (mB 70) 111 = .ok (.invokestatic 119, 3)) (by decide +kernel) (by decide +kernel) ((doS_n np_27).trans rfl)
theorem t70_114 : rn 70 114 ls (.int x :: r) M = if x = 0 then rn 70 121 ls r M else rn 70 117 ls r M := r_if (o := 7) (r := r) (c := x = 0) (by decide +kernel : decode (mB 70) 114 = .ok (.ifCond .eq 7, 3)) rfl (by decide) rfl
theorem t70_117 : rn 70 117 ls r M = rn 70 118 ls (.int 1 :: r) M := r_nx (by decide +kernel : decode (mB 70) 117 = .ok (.iconst 1, 1)) rfl rfl
theorem t70_118 : rn 70 118 ls r M = rn 70 122 ls r M := r_goto (o := 4) (by decide +kernel : decode (mB 70) 118 = .ok (.goto 4, 3)) (by decide)
theorem t70_121 : rn 70 121 ls r M = rn 70 122 ls (.int 0 :: r) M := r_nx (by decide +kernel : decode (mB 70) 121 = .ok (.iconst 0, 1)) rfl rfl
theorem t70_122 : rn 70 122 ls [.int x] M = some (some (.int x), M) := r_ireturn (by decide +kernel : decode (mB 70) 122 = .ok (.ireturn, 1)) rfl
theorem t70_123 : rn 70 123 (some (.ref a) :: l) r M = rn 70 124 (some (.ref a) :: l) (.ref a :: r) M := r_aload_n (by decide +kernel : decode (mB 70) 123 = .ok (.aload_n 0, 1)) rfl
theorem t70_124 : rn 70 124 ls (.ref a :: r) M = if mK M a = (10, 0) then rn 70 127 ls (va_rf (mP M a 0) :: r) M else none := r_getP (ci := 0) (k := 0) (by decide +kernel : decode (mB 70) 124 = .ok (.getfield 10, 3)) (by decide +kernel) rfl
theorem t70_127 : rn 70 127 ls (.ref a :: r) M = if mK M a = (11, 0) then rn 70 130 ls (va_rf (mP M a 1) :: r) M else none := r_getP (ci := 1) (k := 1) (by decide +kernel : decode (mB 70) 127 = .ok (.getfield 73, 3)) (by decide +kernel) rfl
theorem t70_130 : rn 70 130 ls (.ref a :: r) M = if mK M a = (13, 0) then rn 70 133 ls (va_rf (mP M a 4) :: r) M else none := r_getP (ci := 3) (k := 4) (by decide +kernel : decode (mB 70) 130 = .ok (.getfield 127, 3)) (by decide +kernel) rfl
theorem t70_133 : rn 70 133 (a0 :: some (.int x) :: l) r M = rn 70 134 (a0 :: some (.int x) :: l) (.int x :: r) M := r_iload_n (by decide +kernel : decode (mB 70) 133 = .ok (.iload_n 1, 1)) rfl
theorem t70_134 : rn 70 134 ls (.int x :: .ref a :: r) M = if ((mK M a).1 = 1 ∨ (mK M a).1 = 5) ∧ inR x (mK M a).2 then rn 70 135 ls (.int (mI M a x.toNatClampNeg) :: r) M else none := r_cnd (by decide +kernel : decode (mB 70) 134 = .ok (.iaload, 1)) rfl rfl
theorem t70_135 : rn 70 135 ls [.int x] M = some (some (.int x), M) := r_ireturn (by decide +kernel : decode (mB 70) 135 = .ok (.ireturn, 1)) rfl
theorem t70_136 : rn 70 136 (some (.ref a) :: l) r M = rn 70 137 (some (.ref a) :: l) (.ref a :: r) M := r_aload_n (by decide +kernel : decode (mB 70) 136 = .ok (.aload_n 0, 1)) rfl
theorem t70_137 : rn 70 137 ls (.ref a :: r) M = if mK M a = (10, 0) then rn 70 140 ls (va_rf (mP M a 0) :: r) M else none := r_getP (ci := 0) (k := 0) (by decide +kernel : decode (mB 70) 137 = .ok (.getfield 10, 3)) (by decide +kernel) rfl
theorem t70_140 : rn 70 140 ls (.ref a :: r) M = if mK M a = (11, 0) then rn 70 143 ls (va_rf (mP M a 1) :: r) M else none := r_getP (ci := 1) (k := 1) (by decide +kernel : decode (mB 70) 140 = .ok (.getfield 73, 3)) (by decide +kernel) rfl
theorem t70_143 : rn 70 143 ls (.ref a :: r) M = if mK M a = (13, 0) then rn 70 146 ls (va_rf (mP M a 5) :: r) M else none := r_getP (ci := 3) (k := 5) (by decide +kernel : decode (mB 70) 143 = .ok (.getfield 130, 3)) (by decide +kernel) rfl
theorem t70_146 : rn 70 146 (a0 :: some (.int x) :: l) r M = rn 70 147 (a0 :: some (.int x) :: l) (.int x :: r) M := r_iload_n (by decide +kernel : decode (mB 70) 146 = .ok (.iload_n 1, 1)) rfl
theorem t70_147 : rn 70 147 ls (.int x :: .ref a :: r) M = if ((mK M a).1 = 1 ∨ (mK M a).1 = 5) ∧ inR x (mK M a).2 then rn 70 148 ls (.int (mI M a x.toNatClampNeg) :: r) M else none := r_cnd (by decide +kernel : decode (mB 70) 147 = .ok (.iaload, 1)) rfl rfl
theorem t70_148 : rn 70 148 ls [.int x] M = some (some (.int x), M) := r_ireturn (by decide +kernel : decode (mB 70) 148 = .ok (.ireturn, 1)) rfl
theorem t70_149 : rn 70 149 (a0 :: a1 :: a2 :: some (.ref a) :: l) r M = rn 70 150 (a0 :: a1 :: a2 :: some (.ref a) :: l) (.ref a :: r) M := r_aload_n (by decide +kernel : decode (mB 70) 149 = .ok (.aload_n 3, 1)) rfl
theorem t70_150 : rn 70 150 ls (.ref a :: r) M = if mK M a = (12, 0) then rn 70 153 ls (va_rf (mP M a 5) :: r) M else none := r_getP (ci := 2) (k := 5) (by decide +kernel : decode (mB 70) 150 = .ok (.getfield 133, 3)) (by decide +kernel) rfl
theorem t70_153 : rn 70 153 (a0 :: some (.int x) :: l) r M = rn 70 154 (a0 :: some (.int x) :: l) (.int x :: r) M := r_iload_n (by decide +kernel : decode (mB 70) 153 = .ok (.iload_n 1, 1)) rfl
theorem t70_154 : rn 70 154 ls (.int x :: .ref a :: r) M = if (mK M a).1 = 2 ∧ inR x (mK M a).2 then rn 70 155 ls (.long (mJ M a x.toNatClampNeg) :: r) M else none := r_cnd (by decide +kernel : decode (mB 70) 154 = .ok (.laload, 1)) rfl rfl
theorem t70_155 : rn 70 155 ls [.long u] M = cbn (cl 37 [.long u] M) 70 158 ls [] := r_callS (kd := 2) (by decide +kernel : decode (mB 70) 155 = .ok (.invokestatic 80, 3)) (by decide +kernel) (by decide +kernel) ((doS_n np_37).trans rfl)
theorem t70_158 : rn 70 158 ls [.int x] M = some (some (.int x), M) := r_ireturn (by decide +kernel : decode (mB 70) 158 = .ok (.ireturn, 1)) rfl
theorem t70_159 : rn 70 159 (a0 :: a1 :: a2 :: some (.ref a) :: l) r M = rn 70 160 (a0 :: a1 :: a2 :: some (.ref a) :: l) (.ref a :: r) M := r_aload_n (by decide +kernel : decode (mB 70) 159 = .ok (.aload_n 3, 1)) rfl
theorem t70_160 : rn 70 160 (a0 :: some (.int x) :: l) r M = rn 70 161 (a0 :: some (.int x) :: l) (.int x :: r) M := r_iload_n (by decide +kernel : decode (mB 70) 160 = .ok (.iload_n 1, 1)) rfl
theorem t70_161 : rn 70 161 ls [.int x, .ref a] M = if mK M a = (12, 0) then cbn (cl 71 [.ref a, .int x] M) 70 164 ls [] else none := r_callV (kd := 0) (by decide +kernel : decode (mB 70) 161 = .ok (.invokevirtual 137, 3)) (by decide +kernel) ((doV_n np_71).trans rfl)
theorem t70_164 : rn 70 164 ls [.int x] M = some (some (.int x), M) := r_ireturn (by decide +kernel : decode (mB 70) 164 = .ok (.ireturn, 1)) rfl
theorem t70_165 : rn 70 165 ls r M = rn 70 167 ls (.int (-2) :: r) M := r_nx (by decide +kernel : decode (mB 70) 165 = .ok (.bipush (-2), 2)) rfl rfl
theorem t70_167 : rn 70 167 ls [.int x] M = some (some (.int x), M) := r_ireturn (by decide +kernel : decode (mB 70) 167 = .ok (.ireturn, 1)) rfl
-- 72 DR_dependsOn(I)J
theorem t72_0 : rn 72 0 (some (.ref a) :: l) r M = rn 72 1 (some (.ref a) :: l) (.ref a :: r) M := r_aload_n (by decide +kernel : decode (mB 72) 0 = .ok (.aload_n 0, 1)) rfl
theorem t72_1 : rn 72 1 ls (.ref a :: r) M = if mK M a = (10, 0) then rn 72 4 ls (va_rf (mP M a 0) :: r) M else none := r_getP (ci := 0) (k := 0) (by decide +kernel : decode (mB 72) 1 = .ok (.getfield 10, 3)) (by decide +kernel) rfl
theorem t72_4 : rn 72 4 ls (.ref a :: r) M = if mK M a = (11, 0) then rn 72 7 ls (va_rf (mP M a 0) :: r) M else none := r_getP (ci := 1) (k := 0) (by decide +kernel : decode (mB 72) 4 = .ok (.getfield 89, 3)) (by decide +kernel) rfl
theorem t72_7 : rn 72 7 (a0 :: some (.int x) :: l) r M = rn 72 8 (a0 :: some (.int x) :: l) (.int x :: r) M := r_iload_n (by decide +kernel : decode (mB 72) 7 = .ok (.iload_n 1, 1)) rfl
theorem t72_8 : rn 72 8 ls [.int x, .ref a] M = if mK M a = (12, 0) then cbn (cl 36 [.ref a, .int x] M) 72 11 ls [] else none := r_callV (kd := 0) (by decide +kernel : decode (mB 72) 8 = .ok (.invokevirtual 100, 3)) (by decide +kernel) ((doV_n np_36).trans rfl)
theorem t72_11 : rn 72 11 ls (.int x :: r) M = if x = 0 then rn 72 29 ls r M else rn 72 14 ls r M := r_if (o := 18) (r := r) (c := x = 0) (by decide +kernel : decode (mB 72) 11 = .ok (.ifCond .eq 18, 3)) rfl (by decide) rfl
theorem t72_14 : rn 72 14 (some (.ref a) :: l) r M = rn 72 15 (some (.ref a) :: l) (.ref a :: r) M := r_aload_n (by decide +kernel : decode (mB 72) 14 = .ok (.aload_n 0, 1)) rfl
theorem t72_15 : rn 72 15 ls (.ref a :: r) M = if mK M a = (10, 0) then rn 72 18 ls (va_rf (mP M a 0) :: r) M else none := r_getP (ci := 0) (k := 0) (by decide +kernel : decode (mB 72) 15 = .ok (.getfield 10, 3)) (by decide +kernel) rfl
theorem t72_18 : rn 72 18 ls (.ref a :: r) M = if mK M a = (11, 0) then rn 72 21 ls (va_rf (mP M a 0) :: r) M else none := r_getP (ci := 1) (k := 0) (by decide +kernel : decode (mB 72) 18 = .ok (.getfield 89, 3)) (by decide +kernel) rfl
theorem t72_21 : rn 72 21 ls (.ref a :: r) M = if mK M a = (12, 0) then rn 72 24 ls (va_rf (mP M a 5) :: r) M else none := r_getP (ci := 2) (k := 5) (by decide +kernel : decode (mB 72) 21 = .ok (.getfield 133, 3)) (by decide +kernel) rfl
theorem t72_24 : rn 72 24 (a0 :: some (.int x) :: l) r M = rn 72 25 (a0 :: some (.int x) :: l) (.int x :: r) M := r_iload_n (by decide +kernel : decode (mB 72) 24 = .ok (.iload_n 1, 1)) rfl
theorem t72_25 : rn 72 25 ls (.int x :: .ref a :: r) M = if (mK M a).1 = 2 ∧ inR x (mK M a).2 then rn 72 26 ls (.long (mJ M a x.toNatClampNeg) :: r) M else none := r_cnd (by decide +kernel : decode (mB 72) 25 = .ok (.laload, 1)) rfl rfl
theorem t72_26 : rn 72 26 ls r M = rn 72 32 ls r M := r_goto (o := 6) (by decide +kernel : decode (mB 72) 26 = .ok (.goto 6, 3)) (by decide)
theorem t72_29 : rn 72 29 ls r M = rn 72 32 ls (.long (-1) :: r) M := r_nx (by decide +kernel : decode (mB 72) 29 = .ok (.ldc2_w 140, 3)) rfl rfl
theorem t72_32 : rn 72 32 ls [.long u] M = some (some (.long u), M) := r_lreturn (by decide +kernel : decode (mB 72) 32 = .ok (.lreturn, 1)) rfl
-- 73 DR_depth(I)I
theorem t73_0 : rn 73 0 (some (.ref a) :: l) r M = rn 73 1 (some (.ref a) :: l) (.ref a :: r) M := r_aload_n (by decide +kernel : decode (mB 73) 0 = .ok (.aload_n 0, 1)) rfl
theorem t73_1 : rn 73 1 ls (.ref a :: r) M = if mK M a = (10, 0) then rn 73 4 ls (va_rf (mP M a 0) :: r) M else none := r_getP (ci := 0) (k := 0) (by decide +kernel : decode (mB 73) 1 = .ok (.getfield 10, 3)) (by decide +kernel) rfl
theorem t73_4 : rn 73 4 ls (.ref a :: r) M = if mK M a = (11, 0) then rn 73 7 ls (va_rf (mP M a 0) :: r) M else none := r_getP (ci := 1) (k := 0) (by decide +kernel : decode (mB 73) 4 = .ok (.getfield 89, 3)) (by decide +kernel) rfl
theorem t73_7 : rn 73 7 (a0 :: some (.int x) :: l) r M = rn 73 8 (a0 :: some (.int x) :: l) (.int x :: r) M := r_iload_n (by decide +kernel : decode (mB 73) 7 = .ok (.iload_n 1, 1)) rfl
theorem t73_8 : rn 73 8 ls [.int x, .ref a] M = if mK M a = (12, 0) then cbn (cl 36 [.ref a, .int x] M) 73 11 ls [] else none := r_callV (kd := 0) (by decide +kernel : decode (mB 73) 8 = .ok (.invokevirtual 100, 3)) (by decide +kernel) ((doV_n np_36).trans rfl)
theorem t73_11 : rn 73 11 ls (.int x :: r) M = if ¬ x = 0 then rn 73 16 ls r M else rn 73 14 ls r M := r_if (o := 5) (r := r) (c := ¬ x = 0) (by decide +kernel : decode (mB 73) 11 = .ok (.ifCond .ne 5, 3)) rfl (by decide) rfl
theorem t73_14 : rn 73 14 ls r M = rn 73 15 ls (.int (-1) :: r) M := r_nx (by decide +kernel : decode (mB 73) 14 = .ok (.iconst (-1), 1)) rfl rfl
theorem t73_15 : rn 73 15 ls [.int x] M = some (some (.int x), M) := r_ireturn (by decide +kernel : decode (mB 73) 15 = .ok (.ireturn, 1)) rfl
theorem t73_16 : rn 73 16 (some (.ref a) :: l) r M = rn 73 17 (some (.ref a) :: l) (.ref a :: r) M := r_aload_n (by decide +kernel : decode (mB 73) 16 = .ok (.aload_n 0, 1)) rfl
theorem t73_17 : rn 73 17 ls [.ref a] M = if mK M a = (10, 0) then cbn (cl 74 [.ref a] M) 73 20 ls [] else none := r_callV (kd := 0) (by decide +kernel : decode (mB 73) 17 = .ok (.invokevirtual 198, 3)) (by decide +kernel) ((doV_n np_74).trans rfl)
theorem t73_20 : rn 73 20 (some (.ref a) :: l) r M = rn 73 21 (some (.ref a) :: l) (.ref a :: r) M := r_aload_n (by decide +kernel : decode (mB 73) 20 = .ok (.aload_n 0, 1)) rfl
theorem t73_21 : rn 73 21 ls (.ref a :: r) M = if mK M a = (10, 0) then rn 73 24 ls (va_rf (mP M a 4) :: r) M else none := r_getP (ci := 0) (k := 4) (by decide +kernel : decode (mB 73) 21 = .ok (.getfield 39, 3)) (by decide +kernel) rfl
theorem t73_24 : rn 73 24 ls (.ref a :: r) M = if mK M a = (13, 0) then rn 73 27 ls (va_rf (mP M a 4) :: r) M else none := r_getP (ci := 3) (k := 4) (by decide +kernel : decode (mB 73) 24 = .ok (.getfield 127, 3)) (by decide +kernel) rfl
theorem t73_27 : rn 73 27 (a0 :: some (.int x) :: l) r M = rn 73 28 (a0 :: some (.int x) :: l) (.int x :: r) M := r_iload_n (by decide +kernel : decode (mB 73) 27 = .ok (.iload_n 1, 1)) rfl
theorem t73_28 : rn 73 28 ls (.int x :: .ref a :: r) M = if ((mK M a).1 = 1 ∨ (mK M a).1 = 5) ∧ inR x (mK M a).2 then rn 73 29 ls (.int (mI M a x.toNatClampNeg) :: r) M else none := r_cnd (by decide +kernel : decode (mB 73) 28 = .ok (.iaload, 1)) rfl rfl
theorem t73_29 : rn 73 29 ls [.int x] M = some (some (.int x), M) := r_ireturn (by decide +kernel : decode (mB 73) 29 = .ok (.ireturn, 1)) rfl
-- 74 DR_tryReplay()V
theorem t74_0 : rn 74 0 (some (.ref a) :: l) r M = rn 74 1 (some (.ref a) :: l) (.ref a :: r) M := r_aload_n (by decide +kernel : decode (mB 74) 0 = .ok (.aload_n 0, 1)) rfl
theorem t74_1 : rn 74 1 ls (.ref a :: r) M = if mK M a = (10, 0) then rn 74 4 ls (va_rf (mP M a 4) :: r) M else none := r_getP (ci := 0) (k := 4) (by decide +kernel : decode (mB 74) 1 = .ok (.getfield 39, 3)) (by decide +kernel) rfl
theorem t74_4 : rn 74 4 ls [.ref a] M = if mK M a = (13, 0) then cbn (cl 7 [.ref a] M) 74 7 ls [] else none := r_callV (kd := 0) (by decide +kernel : decode (mB 74) 4 = .ok (.invokevirtual 86, 3)) (by decide +kernel) ((doV_n np_7).trans rfl)
theorem t74_7 : rn 74 7 (some (.ref a) :: l) r M = rn 74 8 (some (.ref a) :: l) (.ref a :: r) M := r_aload_n (by decide +kernel : decode (mB 74) 7 = .ok (.aload_n 0, 1)) rfl
theorem t74_8 : rn 74 8 ls (.ref a :: r) M = if mK M a = (10, 0) then rn 74 11 ls (va_rf (mP M a 4) :: r) M else none := r_getP (ci := 0) (k := 4) (by decide +kernel : decode (mB 74) 8 = .ok (.getfield 39, 3)) (by decide +kernel) rfl
theorem t74_11 : rn 74 11 (some (.ref a) :: l) r M = rn 74 12 (some (.ref a) :: l) (.ref a :: r) M := r_aload_n (by decide +kernel : decode (mB 74) 11 = .ok (.aload_n 0, 1)) rfl
theorem t74_12 : rn 74 12 ls (.ref a :: r) M = if mK M a = (10, 0) then rn 74 15 ls (va_rf (mP M a 0) :: r) M else none := r_getP (ci := 0) (k := 0) (by decide +kernel : decode (mB 74) 12 = .ok (.getfield 10, 3)) (by decide +kernel) rfl
theorem t74_15 : rn 74 15 ls (.ref a :: r) M = if mK M a = (11, 0) then rn 74 18 ls (va_rf (mP M a 0) :: r) M else none := r_getP (ci := 1) (k := 0) (by decide +kernel : decode (mB 74) 15 = .ok (.getfield 89, 3)) (by decide +kernel) rfl
theorem t74_18 : rn 74 18 ls [.ref a, .ref b] M = if mK M b = (13, 0) then cbn (cl 58 [.ref b, .ref a] M) 74 21 ls [] else none := r_callV (kd := 0) (by decide +kernel : decode (mB 74) 18 = .ok (.invokevirtual 97, 3)) (by decide +kernel) ((doV_n np_58).trans rfl)
theorem t74_21 : rn 74 21 ls (.int x :: r) M = rn 74 22 ls r M := r_nx (by decide +kernel : decode (mB 74) 21 = .ok (.pop, 1)) rfl rfl
theorem t74_22 : rn 74 22 ls [] M = some (none, M) := r_vreturn (by decide +kernel : decode (mB 74) 22 = .ok (.return_, 1)) rfl
-- 77 DR_wants(I)J
theorem t77_0 : rn 77 0 (some (.ref a) :: l) r M = rn 77 1 (some (.ref a) :: l) (.ref a :: r) M := r_aload_n (by decide +kernel : decode (mB 77) 0 = .ok (.aload_n 0, 1)) rfl
theorem t77_1 : rn 77 1 ls (.ref a :: r) M = if mK M a = (10, 0) then rn 77 4 ls (va_rf (mP M a 0) :: r) M else none := r_getP (ci := 0) (k := 0) (by decide +kernel : decode (mB 77) 1 = .ok (.getfield 10, 3)) (by decide +kernel) rfl
theorem t77_4 : rn 77 4 ls (.ref a :: r) M = if mK M a = (11, 0) then rn 77 7 ls (va_rf (mP M a 0) :: r) M else none := r_getP (ci := 1) (k := 0) (by decide +kernel : decode (mB 77) 4 = .ok (.getfield 89, 3)) (by decide +kernel) rfl
theorem t77_7 : rn 77 7 (a0 :: some (.int x) :: l) r M = rn 77 8 (a0 :: some (.int x) :: l) (.int x :: r) M := r_iload_n (by decide +kernel : decode (mB 77) 7 = .ok (.iload_n 1, 1)) rfl
theorem t77_8 : rn 77 8 ls [.int x, .ref a] M = if mK M a = (12, 0) then cbn (cl 36 [.ref a, .int x] M) 77 11 ls [] else none := r_callV (kd := 0) (by decide +kernel : decode (mB 77) 8 = .ok (.invokevirtual 100, 3)) (by decide +kernel) ((doV_n np_36).trans rfl)
theorem t77_11 : rn 77 11 ls (.int x :: r) M = if ¬ x = 0 then rn 77 18 ls r M else rn 77 14 ls r M := r_if (o := 7) (r := r) (c := ¬ x = 0) (by decide +kernel : decode (mB 77) 11 = .ok (.ifCond .ne 7, 3)) rfl (by decide) rfl
theorem t77_14 : rn 77 14 ls r M = rn 77 17 ls (.long (-1) :: r) M := r_nx (by decide +kernel : decode (mB 77) 14 = .ok (.ldc2_w 140, 3)) rfl rfl
theorem t77_17 : rn 77 17 ls [.long u] M = some (some (.long u), M) := r_lreturn (by decide +kernel : decode (mB 77) 17 = .ok (.lreturn, 1)) rfl
theorem t77_18 : rn 77 18 (some (.ref a) :: l) r M = rn 77 19 (some (.ref a) :: l) (.ref a :: r) M := r_aload_n (by decide +kernel : decode (mB 77) 18 = .ok (.aload_n 0, 1)) rfl
theorem t77_19 : rn 77 19 ls (.ref a :: r) M = if mK M a = (10, 0) then rn 77 22 ls (va_rf (mP M a 0) :: r) M else none := r_getP (ci := 0) (k := 0) (by decide +kernel : decode (mB 77) 19 = .ok (.getfield 10, 3)) (by decide +kernel) rfl
theorem t77_22 : rn 77 22 ls (.ref a :: r) M = if mK M a = (11, 0) then rn 77 25 ls (va_rf (mP M a 0) :: r) M else none := r_getP (ci := 1) (k := 0) (by decide +kernel : decode (mB 77) 22 = .ok (.getfield 89, 3)) (by decide +kernel) rfl
theorem t77_25 : rn 77 25 ls (.ref a :: r) M = if mK M a = (12, 0) then rn 77 28 ls (va_rf (mP M a 6) :: r) M else none := r_getP (ci := 2) (k := 6) (by decide +kernel : decode (mB 77) 25 = .ok (.getfield 201, 3)) (by decide +kernel) rfl
theorem t77_28 : rn 77 28 (a0 :: some (.int x) :: l) r M = rn 77 29 (a0 :: some (.int x) :: l) (.int x :: r) M := r_iload_n (by decide +kernel : decode (mB 77) 28 = .ok (.iload_n 1, 1)) rfl
theorem t77_29 : rn 77 29 ls (.int x :: .ref a :: r) M = if (mK M a).1 = 2 ∧ inR x (mK M a).2 then rn 77 30 ls (.long (mJ M a x.toNatClampNeg) :: r) M else none := r_cnd (by decide +kernel : decode (mB 77) 29 = .ok (.laload, 1)) rfl rfl
theorem t77_30 : rn 77 30 (a0 :: some (.int x) :: l) r M = rn 77 31 (a0 :: some (.int x) :: l) (.int x :: r) M := r_iload_n (by decide +kernel : decode (mB 77) 30 = .ok (.iload_n 1, 1)) rfl
theorem t77_31 : rn 77 31 ls [.int x, .long u] M = cbn (cl 24 [.int x] M) 77 34 ls [.long u] := r_callS (kd := 2) (by decide +kernel : decode (mB 77) 31 = .ok (.invokestatic 204, 3)) (by decide +kernel) (by decide +kernel) ((doS_n np_24).trans rfl)
theorem t77_34 : rn 77 34 ls (.long v :: .long u :: r) M = rn 77 35 ls (.long (u ||| v) :: r) M := r_nx (by decide +kernel : decode (mB 77) 34 = .ok (.lor, 1)) rfl rfl
theorem t77_35 : rn 77 35 (some (.ref a) :: l) r M = rn 77 36 (some (.ref a) :: l) (.ref a :: r) M := r_aload_n (by decide +kernel : decode (mB 77) 35 = .ok (.aload_n 0, 1)) rfl
theorem t77_36 : rn 77 36 ls (.ref a :: r) M = if mK M a = (10, 0) then rn 77 39 ls (va_rf (mP M a 0) :: r) M else none := r_getP (ci := 0) (k := 0) (by decide +kernel : decode (mB 77) 36 = .ok (.getfield 10, 3)) (by decide +kernel) rfl
theorem t77_39 : rn 77 39 ls (.ref a :: r) M = if mK M a = (11, 0) then rn 77 42 ls (va_rf (mP M a 0) :: r) M else none := r_getP (ci := 1) (k := 0) (by decide +kernel : decode (mB 77) 39 = .ok (.getfield 89, 3)) (by decide +kernel) rfl
theorem t77_42 : rn 77 42 ls (.ref a :: r) M = if mK M a = (12, 0) then rn 77 45 ls (.long (mJ M a 1) :: r) M else none := r_getJ (ci := 2) (k := 1) (by decide +kernel : decode (mB 77) 42 = .ok (.getfield 116, 3)) (by decide +kernel) rfl
theorem t77_45 : rn 77 45 ls (.long v :: .long u :: r) M = rn 77 46 ls (.long (u &&& v) :: r) M := r_nx (by decide +kernel : decode (mB 77) 45 = .ok (.land, 1)) rfl rfl
theorem t77_46 : rn 77 46 ls [.long u] M = some (some (.long u), M) := r_lreturn (by decide +kernel : decode (mB 77) 46 = .ok (.lreturn, 1)) rfl
-- 78 DR_ofFile(II)I
theorem t78_0 : rn 78 0 (some (.ref a) :: l) r M = rn 78 1 (some (.ref a) :: l) (.ref a :: r) M := r_aload_n (by decide +kernel : decode (mB 78) 0 = .ok (.aload_n 0, 1)) rfl
theorem t78_1 : rn 78 1 ls (.ref a :: r) M = if mK M a = (10, 0) then rn 78 4 ls (va_rf (mP M a 0) :: r) M else none := r_getP (ci := 0) (k := 0) (by decide +kernel : decode (mB 78) 1 = .ok (.getfield 10, 3)) (by decide +kernel) rfl
theorem t78_4 : rn 78 4 ls (.ref a :: r) M = if mK M a = (11, 0) then rn 78 7 ls (va_rf (mP M a 1) :: r) M else none := r_getP (ci := 1) (k := 1) (by decide +kernel : decode (mB 78) 4 = .ok (.getfield 73, 3)) (by decide +kernel) rfl
theorem t78_7 : rn 78 7 ls (.ref a :: r) M = if mK M a = (13, 0) then rn 78 10 ls (va_rf (mP M a 6) :: r) M else none := r_getP (ci := 3) (k := 6) (by decide +kernel : decode (mB 78) 7 = .ok (.getfield 142, 3)) (by decide +kernel) rfl
theorem t78_10 : rn 78 10 (a0 :: a1 :: a2 :: a3 :: l) (.ref a :: r) M = rn 78 11 (a0 :: a1 :: a2 :: some (.ref a) :: l) r M := r_astore_n (by decide +kernel : decode (mB 78) 10 = .ok (.astore_n 3, 1)) (Nat.le_add_left 4 l.length)
theorem t78_11 : rn 78 11 (a0 :: some (.int x) :: l) r M = rn 78 12 (a0 :: some (.int x) :: l) (.int x :: r) M := r_iload_n (by decide +kernel : decode (mB 78) 11 = .ok (.iload_n 1, 1)) rfl
theorem t78_12 : rn 78 12 ls [.int x] M = cbn (cl 19 [.int x] M) 78 15 ls [] := r_callS (kd := 2) (by decide +kernel : decode (mB 78) 12 = .ok (.invokestatic 145, 3)) (by decide +kernel) (by decide +kernel) ((doS_n np_19).trans rfl)
theorem t78_15 : rn 78 15 ls (.int x :: r) M = if ¬ x = 0 then rn 78 20 ls r M else rn 78 18 ls r M := r_if (o := 5) (r := r) (c := ¬ x = 0) (by decide +kernel : decode (mB 78) 15 = .ok (.ifCond .ne 5, 3)) rfl (by decide) rfl
theorem t78_18 : rn 78 18 ls r M = rn 78 19 ls (.int (-1) :: r) M := r_nx (by decide +kernel : decode (mB 78) 18 = .ok (.iconst (-1), 1)) rfl rfl
theorem t78_19 : rn 78 19 ls [.int x] M = some (some (.int x), M) := r_ireturn (by decide +kernel : decode (mB 78) 19 = .ok (.ireturn, 1)) rfl
theorem t78_20 : rn 78 20 (a0 :: a1 :: some (.int x) :: l) r M = rn 78 21 (a0 :: a1 :: some (.int x) :: l) (.int x :: r) M := r_iload_n (by decide +kernel : decode (mB 78) 20 = .ok (.iload_n 2, 1)) rfl
theorem t78_21 : rn 78 21 ls (.int x :: r) M = if x = 0 then rn 78 60 ls r M else if x = 1 then rn 78 74 ls r M else if x = 2 then rn 78 81 ls r M else if x = 3 then rn 78 88 ls r M else if x = 4 then rn 78 94 ls r M else if x = 5 then rn 78 100 ls r M else rn 78 106 ls r M := by
  have D := (by decide +kernel : decode (mB 78) 21 = .ok (.tableswitch 85 0 5 #[39, 53, 60, 67, 73, 79], 39))
  by_cases h0 : x = 0
  · rw [h0, r_tab D]; rfl
  by_cases h1 : x = 1
  · rw [h1, r_tab D]; rfl
  by_cases h2 : x = 2
  · rw [h2, r_tab D]; rfl
  by_cases h3 : x = 3
  · rw [h3, r_tab D]; rfl
  by_cases h4 : x = 4
  · rw [h4, r_tab D]; rfl
  by_cases h5 : x = 5
  · rw [h5, r_tab D]; rfl
  rw [r_tabO D (by have e0 : x.toInt ≠ 0 := ti_ne h0; have e1 : x.toInt ≠ 1 := ti_ne h1; have e2 : x.toInt ≠ 2 := ti_ne h2; have e3 : x.toInt ≠ 3 := ti_ne h3; have e4 : x.toInt ≠ 4 := ti_ne h4; have e5 : x.toInt ≠ 5 := ti_ne h5; omega) (by decide), if_neg h0, if_neg h1, if_neg h2, if_neg h3, if_neg h4, if_neg h5]
  rfl
theorem t78_60 : rn 78 60 (a0 :: a1 :: a2 :: some (.ref a) :: l) r M = rn 78 61 (a0 :: a1 :: a2 :: some (.ref a) :: l) (.ref a :: r) M := r_aload_n (by decide +kernel : decode (mB 78) 60 = .ok (.aload_n 3, 1)) rfl
theorem t78_61 : rn 78 61 (a0 :: some (.int x) :: l) r M = rn 78 62 (a0 :: some (.int x) :: l) (.int x :: r) M := r_iload_n (by decide +kernel : decode (mB 78) 61 = .ok (.iload_n 1, 1)) rfl
theorem t78_62 : rn 78 62 ls [.int x, .ref a] M = if mK M a = (14, 0) then cbn (cl 52 [.ref a, .int x] M) 78 65 ls [] else none := r_callV (kd := 0) (by decide +kernel : decode (mB 78) 62 = .ok (.invokevirtual 148, 3)) (by decide +kernel) ((doV_n np_52).trans rfl)
theorem t78_65 : rn 78 65 ls (.int x :: r) M = if x = 0 then rn 78 72 ls r M else rn 78 68 ls r M := r_if (o := 7) (r := r) (c := x = 0) (by decide +kernel : decode (mB 78) 65 = .ok (.ifCond .eq 7, 3)) rfl (by decide) rfl
theorem t78_68 : rn 78 68 ls r M = rn 78 69 ls (.int 1 :: r) M := r_nx (by decide +kernel : decode (mB 78) 68 = .ok (.iconst 1, 1)) rfl rfl
theorem t78_69 : rn 78 69 ls r M = rn 78 73 ls r M := r_goto (o := 4) (by decide +kernel : decode (mB 78) 69 = .ok (.goto 4, 3)) (by decide)
theorem t78_72 : rn 78 72 ls r M = rn 78 73 ls (.int 0 :: r) M := r_nx (by decide +kernel : decode (mB 78) 72 = .ok (.iconst 0, 1)) rfl rfl
theorem t78_73 : rn 78 73 ls [.int x] M = some (some (.int x), M) := r_ireturn (by decide +kernel : decode (mB 78) 73 = .ok (.ireturn, 1)) rfl
theorem t78_74 : rn 78 74 (a0 :: a1 :: a2 :: some (.ref a) :: l) r M = rn 78 75 (a0 :: a1 :: a2 :: some (.ref a) :: l) (.ref a :: r) M := r_aload_n (by decide +kernel : decode (mB 78) 74 = .ok (.aload_n 3, 1)) rfl
theorem t78_75 : rn 78 75 ls (.ref a :: r) M = if mK M a = (14, 0) then rn 78 78 ls (va_rf (mP M a 0) :: r) M else none := r_getP (ci := 4) (k := 0) (by decide +kernel : decode (mB 78) 75 = .ok (.getfield 149, 3)) (by decide +kernel) rfl
theorem t78_78 : rn 78 78 (a0 :: some (.int x) :: l) r M = rn 78 79 (a0 :: some (.int x) :: l) (.int x :: r) M := r_iload_n (by decide +kernel : decode (mB 78) 78 = .ok (.iload_n 1, 1)) rfl
theorem t78_79 : rn 78 79 ls (.int x :: .ref a :: r) M = if ((mK M a).1 = 1 ∨ (mK M a).1 = 5) ∧ inR x (mK M a).2 then rn 78 80 ls (.int (mI M a x.toNatClampNeg) :: r) M else none := r_cnd (by decide +kernel : decode (mB 78) 79 = .ok (.iaload, 1)) rfl rfl
theorem t78_80 : rn 78 80 ls [.int x] M = some (some (.int x), M) := r_ireturn (by decide +kernel : decode (mB 78) 80 = .ok (.ireturn, 1)) rfl
theorem t78_81 : rn 78 81 (a0 :: a1 :: a2 :: some (.ref a) :: l) r M = rn 78 82 (a0 :: a1 :: a2 :: some (.ref a) :: l) (.ref a :: r) M := r_aload_n (by decide +kernel : decode (mB 78) 81 = .ok (.aload_n 3, 1)) rfl
theorem t78_82 : rn 78 82 ls (.ref a :: r) M = if mK M a = (14, 0) then rn 78 85 ls (va_rf (mP M a 1) :: r) M else none := r_getP (ci := 4) (k := 1) (by decide +kernel : decode (mB 78) 82 = .ok (.getfield 152, 3)) (by decide +kernel) rfl
theorem t78_85 : rn 78 85 (a0 :: some (.int x) :: l) r M = rn 78 86 (a0 :: some (.int x) :: l) (.int x :: r) M := r_iload_n (by decide +kernel : decode (mB 78) 85 = .ok (.iload_n 1, 1)) rfl
theorem t78_86 : rn 78 86 ls (.int x :: .ref a :: r) M = if ((mK M a).1 = 1 ∨ (mK M a).1 = 5) ∧ inR x (mK M a).2 then rn 78 87 ls (.int (mI M a x.toNatClampNeg) :: r) M else none := r_cnd (by decide +kernel : decode (mB 78) 86 = .ok (.iaload, 1)) rfl rfl
theorem t78_87 : rn 78 87 ls [.int x] M = some (some (.int x), M) := r_ireturn (by decide +kernel : decode (mB 78) 87 = .ok (.ireturn, 1)) rfl
theorem t78_88 : rn 78 88 (a0 :: a1 :: a2 :: some (.ref a) :: l) r M = rn 78 89 (a0 :: a1 :: a2 :: some (.ref a) :: l) (.ref a :: r) M := r_aload_n (by decide +kernel : decode (mB 78) 88 = .ok (.aload_n 3, 1)) rfl
theorem t78_89 : rn 78 89 (a0 :: some (.int x) :: l) r M = rn 78 90 (a0 :: some (.int x) :: l) (.int x :: r) M := r_iload_n (by decide +kernel : decode (mB 78) 89 = .ok (.iload_n 1, 1)) rfl
theorem t78_90 : rn 78 90 ls [.int x, .ref a] M = if mK M a = (14, 0) then cbn (cl 54 [.ref a, .int x] M) 78 93 ls [] else none := r_callV (kd := 0) (by decide +kernel : decode (mB 78) 90 = .ok (.invokevirtual 155, 3)) (by decide +kernel) ((doV_n np_54).trans rfl)
theorem t78_93 : rn 78 93 ls [.int x] M = some (some (.int x), M) := r_ireturn (by decide +kernel : decode (mB 78) 93 = .ok (.ireturn, 1)) rfl
theorem t78_94 : rn 78 94 (a0 :: a1 :: a2 :: some (.ref a) :: l) r M = rn 78 95 (a0 :: a1 :: a2 :: some (.ref a) :: l) (.ref a :: r) M := r_aload_n (by decide +kernel : decode (mB 78) 94 = .ok (.aload_n 3, 1)) rfl
theorem t78_95 : rn 78 95 (a0 :: some (.int x) :: l) r M = rn 78 96 (a0 :: some (.int x) :: l) (.int x :: r) M := r_iload_n (by decide +kernel : decode (mB 78) 95 = .ok (.iload_n 1, 1)) rfl
theorem t78_96 : rn 78 96 ls [.int x, .ref a] M = if mK M a = (14, 0) then cbn (cl 79 [.ref a, .int x] M) 78 99 ls [] else none := r_callV (kd := 0) (by decide +kernel : decode (mB 78) 96 = .ok (.invokevirtual 158, 3)) (by decide +kernel) ((doV_n np_79).trans rfl)
theorem t78_99 : rn 78 99 ls [.int x] M = some (some (.int x), M) := r_ireturn (by decide +kernel : decode (mB 78) 99 = .ok (.ireturn, 1)) rfl
theorem t78_100 : rn 78 100 (a0 :: a1 :: a2 :: some (.ref a) :: l) r M = rn 78 101 (a0 :: a1 :: a2 :: some (.ref a) :: l) (.ref a :: r) M := r_aload_n (by decide +kernel : decode (mB 78) 100 = .ok (.aload_n 3, 1)) rfl
theorem t78_101 : rn 78 101 (a0 :: some (.int x) :: l) r M = rn 78 102 (a0 :: some (.int x) :: l) (.int x :: r) M := r_iload_n (by decide +kernel : decode (mB 78) 101 = .ok (.iload_n 1, 1)) rfl
theorem t78_102 : rn 78 102 ls [.int x, .ref a] M = if mK M a = (14, 0) then cbn (cl 80 [.ref a, .int x] M) 78 105 ls [] else none := r_callV (kd := 0) (by decide +kernel : decode (mB 78) 102 = .ok (.invokevirtual 161, 3)) (by decide +kernel) ((doV_n np_80).trans rfl)
theorem t78_105 : rn 78 105 ls [.int x] M = some (some (.int x), M) := r_ireturn (by decide +kernel : decode (mB 78) 105 = .ok (.ireturn, 1)) rfl
theorem t78_106 : rn 78 106 ls r M = rn 78 108 ls (.int (-2) :: r) M := r_nx (by decide +kernel : decode (mB 78) 106 = .ok (.bipush (-2), 2)) rfl rfl
theorem t78_108 : rn 78 108 ls [.int x] M = some (some (.int x), M) := r_ireturn (by decide +kernel : decode (mB 78) 108 = .ok (.ireturn, 1)) rfl
-- 81 DR_unlike()I
theorem t81_0 : rn 81 0 (some (.ref a) :: l) r M = rn 81 1 (some (.ref a) :: l) (.ref a :: r) M := r_aload_n (by decide +kernel : decode (mB 81) 0 = .ok (.aload_n 0, 1)) rfl
theorem t81_1 : rn 81 1 ls [.ref a] M = if mK M a = (10, 0) then cbn (cl 74 [.ref a] M) 81 4 ls [] else none := r_callV (kd := 0) (by decide +kernel : decode (mB 81) 1 = .ok (.invokevirtual 198, 3)) (by decide +kernel) ((doV_n np_74).trans rfl)
theorem t81_4 : rn 81 4 (some (.ref a) :: l) r M = rn 81 5 (some (.ref a) :: l) (.ref a :: r) M := r_aload_n (by decide +kernel : decode (mB 81) 4 = .ok (.aload_n 0, 1)) rfl
theorem t81_5 : rn 81 5 ls (.ref a :: r) M = if mK M a = (10, 0) then rn 81 8 ls (va_rf (mP M a 0) :: r) M else none := r_getP (ci := 0) (k := 0) (by decide +kernel : decode (mB 81) 5 = .ok (.getfield 10, 3)) (by decide +kernel) rfl
theorem t81_8 : rn 81 8 ls (.ref a :: r) M = if mK M a = (11, 0) then rn 81 11 ls (va_rf (mP M a 0) :: r) M else none := r_getP (ci := 1) (k := 0) (by decide +kernel : decode (mB 81) 8 = .ok (.getfield 89, 3)) (by decide +kernel) rfl
theorem t81_11 : rn 81 11 (a0 :: a1 :: l) (.ref a :: r) M = rn 81 12 (a0 :: some (.ref a) :: l) r M := r_astore_n (by decide +kernel : decode (mB 81) 11 = .ok (.astore_n 1, 1)) (Nat.le_add_left 2 l.length)
theorem t81_12 : rn 81 12 (some (.ref a) :: l) r M = rn 81 13 (some (.ref a) :: l) (.ref a :: r) M := r_aload_n (by decide +kernel : decode (mB 81) 12 = .ok (.aload_n 0, 1)) rfl
theorem t81_13 : rn 81 13 ls (.ref a :: r) M = if mK M a = (10, 0) then rn 81 16 ls (va_rf (mP M a 5) :: r) M else none := r_getP (ci := 0) (k := 5) (by decide +kernel : decode (mB 81) 13 = .ok (.getfield 46, 3)) (by decide +kernel) rfl
theorem t81_16 : rn 81 16 ls [.ref a] M = if mK M a = (14, 0) then cbn (cl 5 [.ref a] M) 81 19 ls [] else none := r_callV (kd := 0) (by decide +kernel : decode (mB 81) 16 = .ok (.invokevirtual 212, 3)) (by decide +kernel) ((doV_n np_5).trans rfl)
theorem t81_19 : rn 81 19 ls r M = rn 81 20 ls (.int 0 :: r) M := r_nx (by decide +kernel : decode (mB 81) 19 = .ok (.iconst 0, 1)) rfl rfl
theorem t81_20 : rn 81 20 (a0 :: a1 :: a2 :: l) (.int x :: r) M = rn 81 21 (a0 :: a1 :: some (.int x) :: l) r M := r_istore_n (by decide +kernel : decode (mB 81) 20 = .ok (.istore_n 2, 1)) (Nat.le_add_left 3 l.length)
theorem t81_21 : rn 81 21 (a0 :: a1 :: some (.int x) :: l) r M = rn 81 22 (a0 :: a1 :: some (.int x) :: l) (.int x :: r) M := r_iload_n (by decide +kernel : decode (mB 81) 21 = .ok (.iload_n 2, 1)) rfl
theorem t81_22 : rn 81 22 (a0 :: some (.ref a) :: l) r M = rn 81 23 (a0 :: some (.ref a) :: l) (.ref a :: r) M := r_aload_n (by decide +kernel : decode (mB 81) 22 = .ok (.aload_n 1, 1)) rfl
theorem t81_23 : rn 81 23 ls (.ref a :: r) M = if mK M a = (12, 0) then rn 81 26 ls (.int (mI M a 0) :: r) M else none := r_getI (ci := 2) (k := 0) (by decide +kernel : decode (mB 81) 23 = .ok (.getfield 164, 3)) (by decide +kernel) (Or.inl rfl)
theorem t81_26 : rn 81 26 ls (.int y :: .int x :: r) M = if y ≤ x then rn 81 72 ls r M else rn 81 29 ls r M := r_if (o := 46) (r := r) (c := y ≤ x) (by decide +kernel : decode (mB 81) 26 = .ok (.if_icmp .ge 46, 3)) rfl (by decide) rfl
theorem t81_29 : rn 81 29 (a0 :: some (.ref a) :: l) r M = rn 81 30 (a0 :: some (.ref a) :: l) (.ref a :: r) M := r_aload_n (by decide +kernel : decode (mB 81) 29 = .ok (.aload_n 1, 1)) rfl
theorem t81_30 : rn 81 30 ls (.ref a :: r) M = if mK M a = (12, 0) then rn 81 33 ls (.long (mJ M a 1) :: r) M else none := r_getJ (ci := 2) (k := 1) (by decide +kernel : decode (mB 81) 30 = .ok (.getfield 116, 3)) (by decide +kernel) rfl
theorem t81_33 : rn 81 33 (a0 :: a1 :: some (.int x) :: l) r M = rn 81 34 (a0 :: a1 :: some (.int x) :: l) (.int x :: r) M := r_iload_n (by decide +kernel : decode (mB 81) 33 = .ok (.iload_n 2, 1)) rfl
theorem t81_34 : rn 81 34 ls [.int x, .long u] M = cbn (cl 27 [.long u, .int x] M) 81 37 ls [] := r_callS (kd := 2) (by decide +kernel : decode (mB 81) 34 = .ok (.invokestatic 119, 3)) (by decide +kernel) (by decide +kernel) ((doS_n np_27).trans rfl)
theorem t81_37 : rn 81 37 ls (.int x :: r) M = if ¬ x = 0 then rn 81 66 ls r M else rn 81 40 ls r M := r_if (o := 29) (r := r) (c := ¬ x = 0) (by decide +kernel : decode (mB 81) 37 = .ok (.ifCond .ne 29, 3)) rfl (by decide) rfl
theorem t81_40 : rn 81 40 (some (.ref a) :: l) r M = rn 81 41 (some (.ref a) :: l) (.ref a :: r) M := r_aload_n (by decide +kernel : decode (mB 81) 40 = .ok (.aload_n 0, 1)) rfl
theorem t81_41 : rn 81 41 ls (.ref a :: r) M = if mK M a = (10, 0) then rn 81 44 ls (va_rf (mP M a 5) :: r) M else none := r_getP (ci := 0) (k := 5) (by decide +kernel : decode (mB 81) 41 = .ok (.getfield 46, 3)) (by decide +kernel) rfl
theorem t81_44 : rn 81 44 (a0 :: some (.ref a) :: l) r M = rn 81 45 (a0 :: some (.ref a) :: l) (.ref a :: r) M := r_aload_n (by decide +kernel : decode (mB 81) 44 = .ok (.aload_n 1, 1)) rfl
theorem t81_45 : rn 81 45 ls (.ref a :: r) M = if mK M a = (12, 0) then rn 81 48 ls (va_rf (mP M a 2) :: r) M else none := r_getP (ci := 2) (k := 2) (by decide +kernel : decode (mB 81) 45 = .ok (.getfield 106, 3)) (by decide +kernel) rfl
theorem t81_48 : rn 81 48 (a0 :: a1 :: some (.int x) :: l) r M = rn 81 49 (a0 :: a1 :: some (.int x) :: l) (.int x :: r) M := r_iload_n (by decide +kernel : decode (mB 81) 48 = .ok (.iload_n 2, 1)) rfl
theorem t81_49 : rn 81 49 ls (.int x :: .ref a :: r) M = if ((mK M a).1 = 1 ∨ (mK M a).1 = 5) ∧ inR x (mK M a).2 then rn 81 50 ls (.int (mI M a x.toNatClampNeg) :: r) M else none := r_cnd (by decide +kernel : decode (mB 81) 49 = .ok (.iaload, 1)) rfl rfl
theorem t81_50 : rn 81 50 (a0 :: some (.ref a) :: l) r M = rn 81 51 (a0 :: some (.ref a) :: l) (.ref a :: r) M := r_aload_n (by decide +kernel : decode (mB 81) 50 = .ok (.aload_n 1, 1)) rfl
theorem t81_51 : rn 81 51 ls (.ref a :: r) M = if mK M a = (12, 0) then rn 81 54 ls (va_rf (mP M a 3) :: r) M else none := r_getP (ci := 2) (k := 3) (by decide +kernel : decode (mB 81) 51 = .ok (.getfield 110, 3)) (by decide +kernel) rfl
theorem t81_54 : rn 81 54 (a0 :: a1 :: some (.int x) :: l) r M = rn 81 55 (a0 :: a1 :: some (.int x) :: l) (.int x :: r) M := r_iload_n (by decide +kernel : decode (mB 81) 54 = .ok (.iload_n 2, 1)) rfl
theorem t81_55 : rn 81 55 ls (.int x :: .ref a :: r) M = if ((mK M a).1 = 1 ∨ (mK M a).1 = 5) ∧ inR x (mK M a).2 then rn 81 56 ls (.int (mI M a x.toNatClampNeg) :: r) M else none := r_cnd (by decide +kernel : decode (mB 81) 55 = .ok (.iaload, 1)) rfl rfl
theorem t81_56 : rn 81 56 (a0 :: some (.ref a) :: l) r M = rn 81 57 (a0 :: some (.ref a) :: l) (.ref a :: r) M := r_aload_n (by decide +kernel : decode (mB 81) 56 = .ok (.aload_n 1, 1)) rfl
theorem t81_57 : rn 81 57 ls (.ref a :: r) M = if mK M a = (12, 0) then rn 81 60 ls (va_rf (mP M a 4) :: r) M else none := r_getP (ci := 2) (k := 4) (by decide +kernel : decode (mB 81) 57 = .ok (.getfield 113, 3)) (by decide +kernel) rfl
theorem t81_60 : rn 81 60 (a0 :: a1 :: some (.int x) :: l) r M = rn 81 61 (a0 :: a1 :: some (.int x) :: l) (.int x :: r) M := r_iload_n (by decide +kernel : decode (mB 81) 60 = .ok (.iload_n 2, 1)) rfl
theorem t81_61 : rn 81 61 ls (.int x :: .ref a :: r) M = if ((mK M a).1 = 1 ∨ (mK M a).1 = 5) ∧ inR x (mK M a).2 then rn 81 62 ls (.int (mI M a x.toNatClampNeg) :: r) M else none := r_cnd (by decide +kernel : decode (mB 81) 61 = .ok (.iaload, 1)) rfl rfl
theorem t81_62 : rn 81 62 ls [.int x, .int y, .int z, .ref a] M = if mK M a = (14, 0) then cbn (cl 50 [.ref a, .int z, .int y, .int x] M) 81 65 ls [] else none := r_callV (kd := 0) (by decide +kernel : decode (mB 81) 62 = .ok (.invokevirtual 213, 3)) (by decide +kernel) ((doV_n np_50).trans rfl)
theorem t81_65 : rn 81 65 ls (.int x :: r) M = rn 81 66 ls r M := r_nx (by decide +kernel : decode (mB 81) 65 = .ok (.pop, 1)) rfl rfl
theorem t81_66 : rn 81 66 (a0 :: a1 :: some (.int x) :: l) r M = rn 81 69 (a0 :: a1 :: some (.int (x + 1)) :: l) r M := r_iinc (by decide +kernel : decode (mB 81) 66 = .ok (.iinc 2 1, 3)) rfl
theorem t81_69 : rn 81 69 ls r M = rn 81 21 ls r M := r_goto (o := (-48)) (by decide +kernel : decode (mB 81) 69 = .ok (.goto (-48), 3)) (by decide)
theorem t81_72 : rn 81 72 (some (.ref a) :: l) r M = rn 81 73 (some (.ref a) :: l) (.ref a :: r) M := r_aload_n (by decide +kernel : decode (mB 81) 72 = .ok (.aload_n 0, 1)) rfl
theorem t81_73 : rn 81 73 ls (.ref a :: r) M = if mK M a = (10, 0) then rn 81 76 ls (va_rf (mP M a 4) :: r) M else none := r_getP (ci := 0) (k := 4) (by decide +kernel : decode (mB 81) 73 = .ok (.getfield 39, 3)) (by decide +kernel) rfl
theorem t81_76 : rn 81 76 ls (.ref a :: r) M = if mK M a = (13, 0) then rn 81 79 ls (va_rf (mP M a 6) :: r) M else none := r_getP (ci := 3) (k := 6) (by decide +kernel : decode (mB 81) 76 = .ok (.getfield 142, 3)) (by decide +kernel) rfl
theorem t81_79 : rn 81 79 (some (.ref a) :: l) r M = rn 81 80 (some (.ref a) :: l) (.ref a :: r) M := r_aload_n (by decide +kernel : decode (mB 81) 79 = .ok (.aload_n 0, 1)) rfl
theorem t81_80 : rn 81 80 ls (.ref a :: r) M = if mK M a = (10, 0) then rn 81 83 ls (va_rf (mP M a 5) :: r) M else none := r_getP (ci := 0) (k := 5) (by decide +kernel : decode (mB 81) 80 = .ok (.getfield 46, 3)) (by decide +kernel) rfl
theorem t81_83 : rn 81 83 ls [.ref a, .ref b] M = if mK M b = (14, 0) then cbn (cl 82 [.ref b, .ref a] M) 81 86 ls [] else none := r_callV (kd := 0) (by decide +kernel : decode (mB 81) 83 = .ok (.invokevirtual 216, 3)) (by decide +kernel) ((doV_n np_82).trans rfl)
theorem t81_86 : rn 81 86 ls [.int x] M = some (some (.int x), M) := r_ireturn (by decide +kernel : decode (mB 81) 86 = .ok (.ireturn, 1)) rfl
-- 83 DR_worst(I)I
theorem t83_0 : rn 83 0 (a0 :: some (.int x) :: l) r M = rn 83 1 (a0 :: some (.int x) :: l) (.int x :: r) M := r_iload_n (by decide +kernel : decode (mB 83) 0 = .ok (.iload_n 1, 1)) rfl
theorem t83_1 : rn 83 1 ls (.int x :: r) M = if x = 0 then rn 83 12 ls r M else rn 83 4 ls r M := r_if (o := 11) (r := r) (c := x = 0) (by decide +kernel : decode (mB 83) 1 = .ok (.ifCond .eq 11, 3)) rfl (by decide) rfl
theorem t83_4 : rn 83 4 (a0 :: some (.int x) :: l) r M = rn 83 5 (a0 :: some (.int x) :: l) (.int x :: r) M := r_iload_n (by decide +kernel : decode (mB 83) 4 = .ok (.iload_n 1, 1)) rfl
theorem t83_5 : rn 83 5 ls r M = rn 83 6 ls (.int 1 :: r) M := r_nx (by decide +kernel : decode (mB 83) 5 = .ok (.iconst 1, 1)) rfl rfl
theorem t83_6 : rn 83 6 ls (.int y :: .int x :: r) M = if x = y then rn 83 12 ls r M else rn 83 9 ls r M := r_if (o := 6) (r := r) (c := x = y) (by decide +kernel : decode (mB 83) 6 = .ok (.if_icmp .eq 6, 3)) rfl (by decide) rfl
theorem t83_9 : rn 83 9 ls r M = rn 83 11 ls (.int (-2) :: r) M := r_nx (by decide +kernel : decode (mB 83) 9 = .ok (.bipush (-2), 2)) rfl rfl
theorem t83_11 : rn 83 11 ls [.int x] M = some (some (.int x), M) := r_ireturn (by decide +kernel : decode (mB 83) 11 = .ok (.ireturn, 1)) rfl
theorem t83_12 : rn 83 12 ls r M = rn 83 14 ls (.int (-6) :: r) M := r_nx (by decide +kernel : decode (mB 83) 12 = .ok (.bipush (-6), 2)) rfl rfl
theorem t83_14 : rn 83 14 (a0 :: a1 :: a2 :: l) (.int x :: r) M = rn 83 15 (a0 :: a1 :: some (.int x) :: l) r M := r_istore_n (by decide +kernel : decode (mB 83) 14 = .ok (.istore_n 2, 1)) (Nat.le_add_left 3 l.length)
theorem t83_15 : rn 83 15 ls r M = rn 83 17 ls (.int (-6) :: r) M := r_nx (by decide +kernel : decode (mB 83) 15 = .ok (.bipush (-6), 2)) rfl rfl
theorem t83_17 : rn 83 17 (a0 :: a1 :: a2 :: a3 :: l) (.int x :: r) M = rn 83 18 (a0 :: a1 :: a2 :: some (.int x) :: l) r M := r_istore_n (by decide +kernel : decode (mB 83) 17 = .ok (.istore_n 3, 1)) (Nat.le_add_left 4 l.length)
theorem t83_18 : rn 83 18 ls r M = rn 83 19 ls (.int 0 :: r) M := r_nx (by decide +kernel : decode (mB 83) 18 = .ok (.iconst 0, 1)) rfl rfl
theorem t83_19 : rn 83 19 (a0 :: a1 :: a2 :: a3 :: a4 :: l) (.int x :: r) M = rn 83 21 (a0 :: a1 :: a2 :: a3 :: some (.int x) :: l) r M := r_istore (by decide +kernel : decode (mB 83) 19 = .ok (.istore 4, 2)) (Nat.le_add_left 5 l.length)
theorem t83_21 : rn 83 21 (a0 :: a1 :: a2 :: a3 :: some (.int x) :: l) r M = rn 83 23 (a0 :: a1 :: a2 :: a3 :: some (.int x) :: l) (.int x :: r) M := r_iload (by decide +kernel : decode (mB 83) 21 = .ok (.iload 4, 2)) rfl
theorem t83_23 : rn 83 23 (some (.ref a) :: l) r M = rn 83 24 (some (.ref a) :: l) (.ref a :: r) M := r_aload_n (by decide +kernel : decode (mB 83) 23 = .ok (.aload_n 0, 1)) rfl
theorem t83_24 : rn 83 24 ls (.ref a :: r) M = if mK M a = (10, 0) then rn 83 27 ls (va_rf (mP M a 0) :: r) M else none := r_getP (ci := 0) (k := 0) (by decide +kernel : decode (mB 83) 24 = .ok (.getfield 10, 3)) (by decide +kernel) rfl
theorem t83_27 : rn 83 27 ls (.ref a :: r) M = if mK M a = (11, 0) then rn 83 30 ls (va_rf (mP M a 0) :: r) M else none := r_getP (ci := 1) (k := 0) (by decide +kernel : decode (mB 83) 27 = .ok (.getfield 89, 3)) (by decide +kernel) rfl
theorem t83_30 : rn 83 30 ls (.ref a :: r) M = if mK M a = (12, 0) then rn 83 33 ls (.int (mI M a 0) :: r) M else none := r_getI (ci := 2) (k := 0) (by decide +kernel : decode (mB 83) 30 = .ok (.getfield 164, 3)) (by decide +kernel) (Or.inl rfl)
theorem t83_33 : rn 83 33 ls (.int y :: .int x :: r) M = if y ≤ x then rn 83 103 ls r M else rn 83 36 ls r M := r_if (o := 70) (r := r) (c := y ≤ x) (by decide +kernel : decode (mB 83) 33 = .ok (.if_icmp .ge 70, 3)) rfl (by decide) rfl
theorem t83_36 : rn 83 36 (some (.ref a) :: l) r M = rn 83 37 (some (.ref a) :: l) (.ref a :: r) M := r_aload_n (by decide +kernel : decode (mB 83) 36 = .ok (.aload_n 0, 1)) rfl
theorem t83_37 : rn 83 37 ls (.ref a :: r) M = if mK M a = (10, 0) then rn 83 40 ls (va_rf (mP M a 0) :: r) M else none := r_getP (ci := 0) (k := 0) (by decide +kernel : decode (mB 83) 37 = .ok (.getfield 10, 3)) (by decide +kernel) rfl
theorem t83_40 : rn 83 40 ls (.ref a :: r) M = if mK M a = (11, 0) then rn 83 43 ls (va_rf (mP M a 0) :: r) M else none := r_getP (ci := 1) (k := 0) (by decide +kernel : decode (mB 83) 40 = .ok (.getfield 89, 3)) (by decide +kernel) rfl
theorem t83_43 : rn 83 43 ls (.ref a :: r) M = if mK M a = (12, 0) then rn 83 46 ls (.long (mJ M a 1) :: r) M else none := r_getJ (ci := 2) (k := 1) (by decide +kernel : decode (mB 83) 43 = .ok (.getfield 116, 3)) (by decide +kernel) rfl
theorem t83_46 : rn 83 46 (a0 :: a1 :: a2 :: a3 :: some (.int x) :: l) r M = rn 83 48 (a0 :: a1 :: a2 :: a3 :: some (.int x) :: l) (.int x :: r) M := r_iload (by decide +kernel : decode (mB 83) 46 = .ok (.iload 4, 2)) rfl
theorem t83_48 : rn 83 48 ls [.int x, .long u] M = cbn (cl 27 [.long u, .int x] M) 83 51 ls [] := r_callS (kd := 2) (by decide +kernel : decode (mB 83) 48 = .ok (.invokestatic 119, 3)) (by decide +kernel) (by decide +kernel) ((doS_n np_27).trans rfl)
theorem t83_51 : rn 83 51 ls (.int x :: r) M = if ¬ x = 0 then rn 83 97 ls r M else rn 83 54 ls r M := r_if (o := 46) (r := r) (c := ¬ x = 0) (by decide +kernel : decode (mB 83) 51 = .ok (.ifCond .ne 46, 3)) rfl (by decide) rfl
theorem t83_54 : rn 83 54 (some (.ref a) :: l) r M = rn 83 55 (some (.ref a) :: l) (.ref a :: r) M := r_aload_n (by decide +kernel : decode (mB 83) 54 = .ok (.aload_n 0, 1)) rfl
theorem t83_55 : rn 83 55 ls (.ref a :: r) M = if mK M a = (10, 0) then rn 83 58 ls (va_rf (mP M a 0) :: r) M else none := r_getP (ci := 0) (k := 0) (by decide +kernel : decode (mB 83) 55 = .ok (.getfield 10, 3)) (by decide +kernel) rfl
theorem t83_58 : rn 83 58 ls (.ref a :: r) M = if mK M a = (11, 0) then rn 83 61 ls (va_rf (mP M a 0) :: r) M else none := r_getP (ci := 1) (k := 0) (by decide +kernel : decode (mB 83) 58 = .ok (.getfield 89, 3)) (by decide +kernel) rfl
theorem t83_61 : rn 83 61 (some (.ref a) :: l) r M = rn 83 62 (some (.ref a) :: l) (.ref a :: r) M := r_aload_n (by decide +kernel : decode (mB 83) 61 = .ok (.aload_n 0, 1)) rfl
theorem t83_62 : rn 83 62 ls (.ref a :: r) M = if mK M a = (10, 0) then rn 83 65 ls (va_rf (mP M a 0) :: r) M else none := r_getP (ci := 0) (k := 0) (by decide +kernel : decode (mB 83) 62 = .ok (.getfield 10, 3)) (by decide +kernel) rfl
theorem t83_65 : rn 83 65 ls (.ref a :: r) M = if mK M a = (11, 0) then rn 83 68 ls (va_rf (mP M a 0) :: r) M else none := r_getP (ci := 1) (k := 0) (by decide +kernel : decode (mB 83) 65 = .ok (.getfield 89, 3)) (by decide +kernel) rfl
theorem t83_68 : rn 83 68 ls (.ref a :: r) M = if mK M a = (12, 0) then rn 83 71 ls (.long (mJ M a 1) :: r) M else none := r_getJ (ci := 2) (k := 1) (by decide +kernel : decode (mB 83) 68 = .ok (.getfield 116, 3)) (by decide +kernel) rfl
theorem t83_71 : rn 83 71 (a0 :: a1 :: a2 :: a3 :: some (.int x) :: l) r M = rn 83 73 (a0 :: a1 :: a2 :: a3 :: some (.int x) :: l) (.int x :: r) M := r_iload (by decide +kernel : decode (mB 83) 71 = .ok (.iload 4, 2)) rfl
theorem t83_73 : rn 83 73 ls [.int x, .long u, .ref a] M = cbn (cl 24 [.int x] M) 83 76 ls [.long u, .ref a] := r_callS (kd := 2) (by decide +kernel : decode (mB 83) 73 = .ok (.invokestatic 204, 3)) (by decide +kernel) (by decide +kernel) ((doS_n np_24).trans rfl)
theorem t83_76 : rn 83 76 ls (.long v :: .long u :: r) M = rn 83 77 ls (.long (u ||| v) :: r) M := r_nx (by decide +kernel : decode (mB 83) 76 = .ok (.lor, 1)) rfl rfl
theorem t83_77 : rn 83 77 ls [.long u, .ref a] M = if mK M a = (12, 0) then cbn (cl 42 [.ref a, .long u] M) 83 80 ls [] else none := r_callV (kd := 0) (by decide +kernel : decode (mB 83) 77 = .ok (.invokevirtual 208, 3)) (by decide +kernel) ((doV_n np_42).trans rfl)
theorem t83_80 : rn 83 80 ls [.long u] M = cbn (cl 37 [.long u] M) 83 83 ls [] := r_callS (kd := 2) (by decide +kernel : decode (mB 83) 80 = .ok (.invokestatic 80, 3)) (by decide +kernel) (by decide +kernel) ((doS_n np_37).trans rfl)
theorem t83_83 : rn 83 83 (a0 :: a1 :: a2 :: a3 :: a4 :: a5 :: l) (.int x :: r) M = rn 83 85 (a0 :: a1 :: a2 :: a3 :: a4 :: some (.int x) :: l) r M := r_istore (by decide +kernel : decode (mB 83) 83 = .ok (.istore 5, 2)) (Nat.le_add_left 6 l.length)
theorem t83_85 : rn 83 85 (a0 :: a1 :: a2 :: a3 :: a4 :: some (.int x) :: l) r M = rn 83 87 (a0 :: a1 :: a2 :: a3 :: a4 :: some (.int x) :: l) (.int x :: r) M := r_iload (by decide +kernel : decode (mB 83) 85 = .ok (.iload 5, 2)) rfl
theorem t83_87 : rn 83 87 (a0 :: a1 :: a2 :: some (.int x) :: l) r M = rn 83 88 (a0 :: a1 :: a2 :: some (.int x) :: l) (.int x :: r) M := r_iload_n (by decide +kernel : decode (mB 83) 87 = .ok (.iload_n 3, 1)) rfl
theorem t83_88 : rn 83 88 ls (.int y :: .int x :: r) M = if x ≤ y then rn 83 97 ls r M else rn 83 91 ls r M := r_if (o := 9) (r := r) (c := x ≤ y) (by decide +kernel : decode (mB 83) 88 = .ok (.if_icmp .le 9, 3)) rfl (by decide) rfl
theorem t83_91 : rn 83 91 (a0 :: a1 :: a2 :: a3 :: some (.int x) :: l) r M = rn 83 93 (a0 :: a1 :: a2 :: a3 :: some (.int x) :: l) (.int x :: r) M := r_iload (by decide +kernel : decode (mB 83) 91 = .ok (.iload 4, 2)) rfl
theorem t83_93 : rn 83 93 (a0 :: a1 :: a2 :: l) (.int x :: r) M = rn 83 94 (a0 :: a1 :: some (.int x) :: l) r M := r_istore_n (by decide +kernel : decode (mB 83) 93 = .ok (.istore_n 2, 1)) (Nat.le_add_left 3 l.length)
theorem t83_94 : rn 83 94 (a0 :: a1 :: a2 :: a3 :: a4 :: some (.int x) :: l) r M = rn 83 96 (a0 :: a1 :: a2 :: a3 :: a4 :: some (.int x) :: l) (.int x :: r) M := r_iload (by decide +kernel : decode (mB 83) 94 = .ok (.iload 5, 2)) rfl
theorem t83_96 : rn 83 96 (a0 :: a1 :: a2 :: a3 :: l) (.int x :: r) M = rn 83 97 (a0 :: a1 :: a2 :: some (.int x) :: l) r M := r_istore_n (by decide +kernel : decode (mB 83) 96 = .ok (.istore_n 3, 1)) (Nat.le_add_left 4 l.length)
theorem t83_97 : rn 83 97 (a0 :: a1 :: a2 :: a3 :: some (.int x) :: l) r M = rn 83 100 (a0 :: a1 :: a2 :: a3 :: some (.int (x + 1)) :: l) r M := r_iinc (by decide +kernel : decode (mB 83) 97 = .ok (.iinc 4 1, 3)) rfl
theorem t83_100 : rn 83 100 ls r M = rn 83 21 ls r M := r_goto (o := (-79)) (by decide +kernel : decode (mB 83) 100 = .ok (.goto (-79), 3)) (by decide)
theorem t83_103 : rn 83 103 (a0 :: some (.int x) :: l) r M = rn 83 104 (a0 :: some (.int x) :: l) (.int x :: r) M := r_iload_n (by decide +kernel : decode (mB 83) 103 = .ok (.iload_n 1, 1)) rfl
theorem t83_104 : rn 83 104 ls (.int x :: r) M = if ¬ x = 0 then rn 83 111 ls r M else rn 83 107 ls r M := r_if (o := 7) (r := r) (c := ¬ x = 0) (by decide +kernel : decode (mB 83) 104 = .ok (.ifCond .ne 7, 3)) rfl (by decide) rfl
theorem t83_107 : rn 83 107 (a0 :: a1 :: some (.int x) :: l) r M = rn 83 108 (a0 :: a1 :: some (.int x) :: l) (.int x :: r) M := r_iload_n (by decide +kernel : decode (mB 83) 107 = .ok (.iload_n 2, 1)) rfl
theorem t83_108 : rn 83 108 ls r M = rn 83 112 ls r M := r_goto (o := 4) (by decide +kernel : decode (mB 83) 108 = .ok (.goto 4, 3)) (by decide)
theorem t83_111 : rn 83 111 (a0 :: a1 :: a2 :: some (.int x) :: l) r M = rn 83 112 (a0 :: a1 :: a2 :: some (.int x) :: l) (.int x :: r) M := r_iload_n (by decide +kernel : decode (mB 83) 111 = .ok (.iload_n 3, 1)) rfl
theorem t83_112 : rn 83 112 ls [.int x] M = some (some (.int x), M) := r_ireturn (by decide +kernel : decode (mB 83) 112 = .ok (.ireturn, 1)) rfl
-- 84 DR_count(I)I
theorem t84_0 : rn 84 0 (a0 :: some (.int x) :: l) r M = rn 84 1 (a0 :: some (.int x) :: l) (.int x :: r) M := r_iload_n (by decide +kernel : decode (mB 84) 0 = .ok (.iload_n 1, 1)) rfl
theorem t84_1 : rn 84 1 ls (.int x :: r) M = if x = 0 then rn 84 56 ls r M else if x = 1 then rn 84 67 ls r M else if x = 2 then rn 84 81 ls r M else if x = 3 then rn 84 95 ls r M else if x = 4 then rn 84 109 ls r M else if x = 5 then rn 84 123 ls r M else if x = 6 then rn 84 134 ls r M else if x = 7 then rn 84 148 ls r M else if x = 8 then rn 84 159 ls r M else if x = 9 then rn 84 170 ls r M else rn 84 178 ls r M := by
  have D := (by decide +kernel : decode (mB 84) 1 = .ok (.tableswitch 177 0 9 #[55, 66, 80, 94, 108, 122, 133, 147, 158, 169], 55))
  by_cases h0 : x = 0
  · rw [h0, r_tab D]; rfl
  by_cases h1 : x = 1
  · rw [h1, r_tab D]; rfl
  by_cases h2 : x = 2
  · rw [h2, r_tab D]; rfl
  by_cases h3 : x = 3
  · rw [h3, r_tab D]; rfl
  by_cases h4 : x = 4
  · rw [h4, r_tab D]; rfl
  by_cases h5 : x = 5
  · rw [h5, r_tab D]; rfl
  by_cases h6 : x = 6
  · rw [h6, r_tab D]; rfl
  by_cases h7 : x = 7
  · rw [h7, r_tab D]; rfl
  by_cases h8 : x = 8
  · rw [h8, r_tab D]; rfl
  by_cases h9 : x = 9
  · rw [h9, r_tab D]; rfl
  rw [r_tabO D (by have e0 : x.toInt ≠ 0 := ti_ne h0; have e1 : x.toInt ≠ 1 := ti_ne h1; have e2 : x.toInt ≠ 2 := ti_ne h2; have e3 : x.toInt ≠ 3 := ti_ne h3; have e4 : x.toInt ≠ 4 := ti_ne h4; have e5 : x.toInt ≠ 5 := ti_ne h5; have e6 : x.toInt ≠ 6 := ti_ne h6; have e7 : x.toInt ≠ 7 := ti_ne h7; have e8 : x.toInt ≠ 8 := ti_ne h8; have e9 : x.toInt ≠ 9 := ti_ne h9; omega) (by decide), if_neg h0, if_neg h1, if_neg h2, if_neg h3, if_neg h4, if_neg h5, if_neg h6, if_neg h7, if_neg h8, if_neg h9]
  rfl
theorem t84_56 : rn 84 56 (some (.ref a) :: l) r M = rn 84 57 (some (.ref a) :: l) (.ref a :: r) M := r_aload_n (by decide +kernel : decode (mB 84) 56 = .ok (.aload_n 0, 1)) rfl
theorem t84_57 : rn 84 57 ls (.ref a :: r) M = if mK M a = (10, 0) then rn 84 60 ls (va_rf (mP M a 0) :: r) M else none := r_getP (ci := 0) (k := 0) (by decide +kernel : decode (mB 84) 57 = .ok (.getfield 10, 3)) (by decide +kernel) rfl
theorem t84_60 : rn 84 60 ls (.ref a :: r) M = if mK M a = (11, 0) then rn 84 63 ls (va_rf (mP M a 0) :: r) M else none := r_getP (ci := 1) (k := 0) (by decide +kernel : decode (mB 84) 60 = .ok (.getfield 89, 3)) (by decide +kernel) rfl
theorem t84_63 : rn 84 63 ls (.ref a :: r) M = if mK M a = (12, 0) then rn 84 66 ls (.int (mI M a 0) :: r) M else none := r_getI (ci := 2) (k := 0) (by decide +kernel : decode (mB 84) 63 = .ok (.getfield 164, 3)) (by decide +kernel) (Or.inl rfl)
theorem t84_66 : rn 84 66 ls [.int x] M = some (some (.int x), M) := r_ireturn (by decide +kernel : decode (mB 84) 66 = .ok (.ireturn, 1)) rfl
theorem t84_67 : rn 84 67 (some (.ref a) :: l) r M = rn 84 68 (some (.ref a) :: l) (.ref a :: r) M := r_aload_n (by decide +kernel : decode (mB 84) 67 = .ok (.aload_n 0, 1)) rfl
theorem t84_68 : rn 84 68 ls (.ref a :: r) M = if mK M a = (10, 0) then rn 84 71 ls (va_rf (mP M a 0) :: r) M else none := r_getP (ci := 0) (k := 0) (by decide +kernel : decode (mB 84) 68 = .ok (.getfield 10, 3)) (by decide +kernel) rfl
theorem t84_71 : rn 84 71 ls (.ref a :: r) M = if mK M a = (11, 0) then rn 84 74 ls (va_rf (mP M a 0) :: r) M else none := r_getP (ci := 1) (k := 0) (by decide +kernel : decode (mB 84) 71 = .ok (.getfield 89, 3)) (by decide +kernel) rfl
theorem t84_74 : rn 84 74 ls (.ref a :: r) M = if mK M a = (12, 0) then rn 84 77 ls (.long (mJ M a 1) :: r) M else none := r_getJ (ci := 2) (k := 1) (by decide +kernel : decode (mB 84) 74 = .ok (.getfield 116, 3)) (by decide +kernel) rfl
theorem t84_77 : rn 84 77 ls [.long u] M = cbn (cl 37 [.long u] M) 84 80 ls [] := r_callS (kd := 2) (by decide +kernel : decode (mB 84) 77 = .ok (.invokestatic 80, 3)) (by decide +kernel) (by decide +kernel) ((doS_n np_37).trans rfl)
theorem t84_80 : rn 84 80 ls [.int x] M = some (some (.int x), M) := r_ireturn (by decide +kernel : decode (mB 84) 80 = .ok (.ireturn, 1)) rfl
theorem t84_81 : rn 84 81 (some (.ref a) :: l) r M = rn 84 82 (some (.ref a) :: l) (.ref a :: r) M := r_aload_n (by decide +kernel : decode (mB 84) 81 = .ok (.aload_n 0, 1)) rfl
theorem t84_82 : rn 84 82 ls (.ref a :: r) M = if mK M a = (10, 0) then rn 84 85 ls (va_rf (mP M a 0) :: r) M else none := r_getP (ci := 0) (k := 0) (by decide +kernel : decode (mB 84) 82 = .ok (.getfield 10, 3)) (by decide +kernel) rfl
theorem t84_85 : rn 84 85 ls (.ref a :: r) M = if mK M a = (11, 0) then rn 84 88 ls (va_rf (mP M a 0) :: r) M else none := r_getP (ci := 1) (k := 0) (by decide +kernel : decode (mB 84) 85 = .ok (.getfield 89, 3)) (by decide +kernel) rfl
theorem t84_88 : rn 84 88 ls [.ref a] M = if mK M a = (12, 0) then cbn (cl 41 [.ref a] M) 84 91 ls [] else none := r_callV (kd := 0) (by decide +kernel : decode (mB 84) 88 = .ok (.invokevirtual 123, 3)) (by decide +kernel) ((doV_n np_41).trans rfl)
theorem t84_91 : rn 84 91 ls [.long u] M = cbn (cl 37 [.long u] M) 84 94 ls [] := r_callS (kd := 2) (by decide +kernel : decode (mB 84) 91 = .ok (.invokestatic 80, 3)) (by decide +kernel) (by decide +kernel) ((doS_n np_37).trans rfl)
theorem t84_94 : rn 84 94 ls [.int x] M = some (some (.int x), M) := r_ireturn (by decide +kernel : decode (mB 84) 94 = .ok (.ireturn, 1)) rfl
theorem t84_95 : rn 84 95 (some (.ref a) :: l) r M = rn 84 96 (some (.ref a) :: l) (.ref a :: r) M := r_aload_n (by decide +kernel : decode (mB 84) 95 = .ok (.aload_n 0, 1)) rfl
theorem t84_96 : rn 84 96 ls (.ref a :: r) M = if mK M a = (10, 0) then rn 84 99 ls (va_rf (mP M a 0) :: r) M else none := r_getP (ci := 0) (k := 0) (by decide +kernel : decode (mB 84) 96 = .ok (.getfield 10, 3)) (by decide +kernel) rfl
theorem t84_99 : rn 84 99 ls (.ref a :: r) M = if mK M a = (11, 0) then rn 84 102 ls (va_rf (mP M a 1) :: r) M else none := r_getP (ci := 1) (k := 1) (by decide +kernel : decode (mB 84) 99 = .ok (.getfield 73, 3)) (by decide +kernel) rfl
theorem t84_102 : rn 84 102 ls (.ref a :: r) M = if mK M a = (13, 0) then rn 84 105 ls (.long (mJ M a 0) :: r) M else none := r_getJ (ci := 3) (k := 0) (by decide +kernel : decode (mB 84) 102 = .ok (.getfield 76, 3)) (by decide +kernel) rfl
theorem t84_105 : rn 84 105 ls [.long u] M = cbn (cl 37 [.long u] M) 84 108 ls [] := r_callS (kd := 2) (by decide +kernel : decode (mB 84) 105 = .ok (.invokestatic 80, 3)) (by decide +kernel) (by decide +kernel) ((doS_n np_37).trans rfl)
theorem t84_108 : rn 84 108 ls [.int x] M = some (some (.int x), M) := r_ireturn (by decide +kernel : decode (mB 84) 108 = .ok (.ireturn, 1)) rfl
theorem t84_109 : rn 84 109 (some (.ref a) :: l) r M = rn 84 110 (some (.ref a) :: l) (.ref a :: r) M := r_aload_n (by decide +kernel : decode (mB 84) 109 = .ok (.aload_n 0, 1)) rfl
theorem t84_110 : rn 84 110 ls (.ref a :: r) M = if mK M a = (10, 0) then rn 84 113 ls (va_rf (mP M a 0) :: r) M else none := r_getP (ci := 0) (k := 0) (by decide +kernel : decode (mB 84) 110 = .ok (.getfield 10, 3)) (by decide +kernel) rfl
theorem t84_113 : rn 84 113 ls (.ref a :: r) M = if mK M a = (11, 0) then rn 84 116 ls (va_rf (mP M a 1) :: r) M else none := r_getP (ci := 1) (k := 1) (by decide +kernel : decode (mB 84) 113 = .ok (.getfield 73, 3)) (by decide +kernel) rfl
theorem t84_116 : rn 84 116 ls (.ref a :: r) M = if mK M a = (13, 0) then rn 84 119 ls (.long (mJ M a 1) :: r) M else none := r_getJ (ci := 3) (k := 1) (by decide +kernel : decode (mB 84) 116 = .ok (.getfield 168, 3)) (by decide +kernel) rfl
theorem t84_119 : rn 84 119 ls [.long u] M = cbn (cl 37 [.long u] M) 84 122 ls [] := r_callS (kd := 2) (by decide +kernel : decode (mB 84) 119 = .ok (.invokestatic 80, 3)) (by decide +kernel) (by decide +kernel) ((doS_n np_37).trans rfl)
theorem t84_122 : rn 84 122 ls [.int x] M = some (some (.int x), M) := r_ireturn (by decide +kernel : decode (mB 84) 122 = .ok (.ireturn, 1)) rfl
theorem t84_123 : rn 84 123 (some (.ref a) :: l) r M = rn 84 124 (some (.ref a) :: l) (.ref a :: r) M := r_aload_n (by decide +kernel : decode (mB 84) 123 = .ok (.aload_n 0, 1)) rfl
theorem t84_124 : rn 84 124 ls (.ref a :: r) M = if mK M a = (10, 0) then rn 84 127 ls (va_rf (mP M a 0) :: r) M else none := r_getP (ci := 0) (k := 0) (by decide +kernel : decode (mB 84) 124 = .ok (.getfield 10, 3)) (by decide +kernel) rfl
theorem t84_127 : rn 84 127 ls (.ref a :: r) M = if mK M a = (11, 0) then rn 84 130 ls (va_rf (mP M a 1) :: r) M else none := r_getP (ci := 1) (k := 1) (by decide +kernel : decode (mB 84) 127 = .ok (.getfield 73, 3)) (by decide +kernel) rfl
theorem t84_130 : rn 84 130 ls (.ref a :: r) M = if mK M a = (13, 0) then rn 84 133 ls (.int (mI M a 2) :: r) M else none := r_getI (ci := 3) (k := 2) (by decide +kernel : decode (mB 84) 130 = .ok (.getfield 171, 3)) (by decide +kernel) (Or.inl rfl)
theorem t84_133 : rn 84 133 ls [.int x] M = some (some (.int x), M) := r_ireturn (by decide +kernel : decode (mB 84) 133 = .ok (.ireturn, 1)) rfl
theorem t84_134 : rn 84 134 (some (.ref a) :: l) r M = rn 84 135 (some (.ref a) :: l) (.ref a :: r) M := r_aload_n (by decide +kernel : decode (mB 84) 134 = .ok (.aload_n 0, 1)) rfl
theorem t84_135 : rn 84 135 ls (.ref a :: r) M = if mK M a = (10, 0) then rn 84 138 ls (va_rf (mP M a 0) :: r) M else none := r_getP (ci := 0) (k := 0) (by decide +kernel : decode (mB 84) 135 = .ok (.getfield 10, 3)) (by decide +kernel) rfl
theorem t84_138 : rn 84 138 ls (.ref a :: r) M = if mK M a = (11, 0) then rn 84 141 ls (va_rf (mP M a 1) :: r) M else none := r_getP (ci := 1) (k := 1) (by decide +kernel : decode (mB 84) 138 = .ok (.getfield 73, 3)) (by decide +kernel) rfl
theorem t84_141 : rn 84 141 ls (.ref a :: r) M = if mK M a = (13, 0) then rn 84 144 ls (va_rf (mP M a 6) :: r) M else none := r_getP (ci := 3) (k := 6) (by decide +kernel : decode (mB 84) 141 = .ok (.getfield 142, 3)) (by decide +kernel) rfl
theorem t84_144 : rn 84 144 ls [.ref a] M = if mK M a = (14, 0) then cbn (cl 85 [.ref a] M) 84 147 ls [] else none := r_callV (kd := 0) (by decide +kernel : decode (mB 84) 144 = .ok (.invokevirtual 174, 3)) (by decide +kernel) ((doV_n np_85).trans rfl)
theorem t84_147 : rn 84 147 ls [.int x] M = some (some (.int x), M) := r_ireturn (by decide +kernel : decode (mB 84) 147 = .ok (.ireturn, 1)) rfl
theorem t84_148 : rn 84 148 (some (.ref a) :: l) r M = rn 84 149 (some (.ref a) :: l) (.ref a :: r) M := r_aload_n (by decide +kernel : decode (mB 84) 148 = .ok (.aload_n 0, 1)) rfl
theorem t84_149 : rn 84 149 ls (.ref a :: r) M = if mK M a = (10, 0) then rn 84 152 ls (va_rf (mP M a 0) :: r) M else none := r_getP (ci := 0) (k := 0) (by decide +kernel : decode (mB 84) 149 = .ok (.getfield 10, 3)) (by decide +kernel) rfl
theorem t84_152 : rn 84 152 ls (.ref a :: r) M = if mK M a = (11, 0) then rn 84 155 ls (va_rf (mP M a 1) :: r) M else none := r_getP (ci := 1) (k := 1) (by decide +kernel : decode (mB 84) 152 = .ok (.getfield 73, 3)) (by decide +kernel) rfl
theorem t84_155 : rn 84 155 ls (.ref a :: r) M = if mK M a = (13, 0) then rn 84 158 ls (.int (mI M a 3) :: r) M else none := r_getI (ci := 3) (k := 3) (by decide +kernel : decode (mB 84) 155 = .ok (.getfield 177, 3)) (by decide +kernel) (Or.inl rfl)
theorem t84_158 : rn 84 158 ls [.int x] M = some (some (.int x), M) := r_ireturn (by decide +kernel : decode (mB 84) 158 = .ok (.ireturn, 1)) rfl
theorem t84_159 : rn 84 159 (some (.ref a) :: l) r M = rn 84 160 (some (.ref a) :: l) (.ref a :: r) M := r_aload_n (by decide +kernel : decode (mB 84) 159 = .ok (.aload_n 0, 1)) rfl
theorem t84_160 : rn 84 160 ls (.ref a :: r) M = if mK M a = (10, 0) then rn 84 163 ls (va_rf (mP M a 3) :: r) M else none := r_getP (ci := 0) (k := 3) (by decide +kernel : decode (mB 84) 160 = .ok (.getfield 32, 3)) (by decide +kernel) rfl
theorem t84_163 : rn 84 163 ls (.ref a :: r) M = if mK M a = (16, 0) then rn 84 166 ls (va_rf (mP M a 0) :: r) M else none := r_getP (ci := 6) (k := 0) (by decide +kernel : decode (mB 84) 163 = .ok (.getfield 180, 3)) (by decide +kernel) rfl
theorem t84_166 : rn 84 166 ls (.ref a :: r) M = if mK M a = (17, 0) then rn 84 169 ls (.int (mI M a 1) :: r) M else none := r_getI (ci := 7) (k := 1) (by decide +kernel : decode (mB 84) 166 = .ok (.getfield 184, 3)) (by decide +kernel) (Or.inl rfl)
theorem t84_169 : rn 84 169 ls [.int x] M = some (some (.int x), M) := r_ireturn (by decide +kernel : decode (mB 84) 169 = .ok (.ireturn, 1)) rfl
theorem t84_170 : rn 84 170 (some (.ref a) :: l) r M = rn 84 171 (some (.ref a) :: l) (.ref a :: r) M := r_aload_n (by decide +kernel : decode (mB 84) 170 = .ok (.aload_n 0, 1)) rfl
theorem t84_171 : rn 84 171 ls (.ref a :: r) M = if mK M a = (10, 0) then rn 84 174 ls (va_rf (mP M a 1) :: r) M else none := r_getP (ci := 0) (k := 1) (by decide +kernel : decode (mB 84) 171 = .ok (.getfield 19, 3)) (by decide +kernel) rfl
theorem t84_174 : rn 84 174 ls (.ref a :: r) M = if mK M a = (15, 0) then rn 84 177 ls (.int (mI M a 2) :: r) M else none := r_getI (ci := 5) (k := 2) (by decide +kernel : decode (mB 84) 174 = .ok (.getfield 189, 3)) (by decide +kernel) (Or.inl rfl)
theorem t84_177 : rn 84 177 ls [.int x] M = some (some (.int x), M) := r_ireturn (by decide +kernel : decode (mB 84) 177 = .ok (.ireturn, 1)) rfl
theorem t84_178 : rn 84 178 ls r M = rn 84 180 ls (.int (-2) :: r) M := r_nx (by decide +kernel : decode (mB 84) 178 = .ok (.bipush (-2), 2)) rfl rfl
theorem t84_180 : rn 84 180 ls [.int x] M = some (some (.int x), M) := r_ireturn (by decide +kernel : decode (mB 84) 180 = .ok (.ireturn, 1)) rfl
-- 86 DR_set(I)J
theorem t86_0 : rn 86 0 (a0 :: some (.int x) :: l) r M = rn 86 1 (a0 :: some (.int x) :: l) (.int x :: r) M := r_iload_n (by decide +kernel : decode (mB 86) 0 = .ok (.iload_n 1, 1)) rfl
theorem t86_1 : rn 86 1 ls (.int x :: r) M = if x = 0 then rn 86 36 ls r M else if x = 1 then rn 86 47 ls r M else if x = 2 then rn 86 58 ls r M else if x = 3 then rn 86 69 ls r M else if x = 4 then rn 86 80 ls r M else rn 86 98 ls r M := by
  have D := (by decide +kernel : decode (mB 86) 1 = .ok (.tableswitch 97 0 4 #[35, 46, 57, 68, 79], 35))
  by_cases h0 : x = 0
  · rw [h0, r_tab D]; rfl
  by_cases h1 : x = 1
  · rw [h1, r_tab D]; rfl
  by_cases h2 : x = 2
  · rw [h2, r_tab D]; rfl
  by_cases h3 : x = 3
  · rw [h3, r_tab D]; rfl
  by_cases h4 : x = 4
  · rw [h4, r_tab D]; rfl
  rw [r_tabO D (by have e0 : x.toInt ≠ 0 := ti_ne h0; have e1 : x.toInt ≠ 1 := ti_ne h1; have e2 : x.toInt ≠ 2 := ti_ne h2; have e3 : x.toInt ≠ 3 := ti_ne h3; have e4 : x.toInt ≠ 4 := ti_ne h4; omega) (by decide), if_neg h0, if_neg h1, if_neg h2, if_neg h3, if_neg h4]
  rfl
theorem t86_36 : rn 86 36 (some (.ref a) :: l) r M = rn 86 37 (some (.ref a) :: l) (.ref a :: r) M := r_aload_n (by decide +kernel : decode (mB 86) 36 = .ok (.aload_n 0, 1)) rfl
theorem t86_37 : rn 86 37 ls (.ref a :: r) M = if mK M a = (10, 0) then rn 86 40 ls (va_rf (mP M a 0) :: r) M else none := r_getP (ci := 0) (k := 0) (by decide +kernel : decode (mB 86) 37 = .ok (.getfield 10, 3)) (by decide +kernel) rfl
theorem t86_40 : rn 86 40 ls (.ref a :: r) M = if mK M a = (11, 0) then rn 86 43 ls (va_rf (mP M a 0) :: r) M else none := r_getP (ci := 1) (k := 0) (by decide +kernel : decode (mB 86) 40 = .ok (.getfield 89, 3)) (by decide +kernel) rfl
theorem t86_43 : rn 86 43 ls (.ref a :: r) M = if mK M a = (12, 0) then rn 86 46 ls (.long (mJ M a 1) :: r) M else none := r_getJ (ci := 2) (k := 1) (by decide +kernel : decode (mB 86) 43 = .ok (.getfield 116, 3)) (by decide +kernel) rfl
theorem t86_46 : rn 86 46 ls [.long u] M = some (some (.long u), M) := r_lreturn (by decide +kernel : decode (mB 86) 46 = .ok (.lreturn, 1)) rfl
theorem t86_47 : rn 86 47 (some (.ref a) :: l) r M = rn 86 48 (some (.ref a) :: l) (.ref a :: r) M := r_aload_n (by decide +kernel : decode (mB 86) 47 = .ok (.aload_n 0, 1)) rfl
theorem t86_48 : rn 86 48 ls (.ref a :: r) M = if mK M a = (10, 0) then rn 86 51 ls (va_rf (mP M a 0) :: r) M else none := r_getP (ci := 0) (k := 0) (by decide +kernel : decode (mB 86) 48 = .ok (.getfield 10, 3)) (by decide +kernel) rfl
theorem t86_51 : rn 86 51 ls (.ref a :: r) M = if mK M a = (11, 0) then rn 86 54 ls (va_rf (mP M a 0) :: r) M else none := r_getP (ci := 1) (k := 0) (by decide +kernel : decode (mB 86) 51 = .ok (.getfield 89, 3)) (by decide +kernel) rfl
theorem t86_54 : rn 86 54 ls [.ref a] M = if mK M a = (12, 0) then cbn (cl 41 [.ref a] M) 86 57 ls [] else none := r_callV (kd := 0) (by decide +kernel : decode (mB 86) 54 = .ok (.invokevirtual 123, 3)) (by decide +kernel) ((doV_n np_41).trans rfl)
theorem t86_57 : rn 86 57 ls [.long u] M = some (some (.long u), M) := r_lreturn (by decide +kernel : decode (mB 86) 57 = .ok (.lreturn, 1)) rfl
theorem t86_58 : rn 86 58 (some (.ref a) :: l) r M = rn 86 59 (some (.ref a) :: l) (.ref a :: r) M := r_aload_n (by decide +kernel : decode (mB 86) 58 = .ok (.aload_n 0, 1)) rfl
theorem t86_59 : rn 86 59 ls (.ref a :: r) M = if mK M a = (10, 0) then rn 86 62 ls (va_rf (mP M a 0) :: r) M else none := r_getP (ci := 0) (k := 0) (by decide +kernel : decode (mB 86) 59 = .ok (.getfield 10, 3)) (by decide +kernel) rfl
theorem t86_62 : rn 86 62 ls (.ref a :: r) M = if mK M a = (11, 0) then rn 86 65 ls (va_rf (mP M a 1) :: r) M else none := r_getP (ci := 1) (k := 1) (by decide +kernel : decode (mB 86) 62 = .ok (.getfield 73, 3)) (by decide +kernel) rfl
theorem t86_65 : rn 86 65 ls (.ref a :: r) M = if mK M a = (13, 0) then rn 86 68 ls (.long (mJ M a 0) :: r) M else none := r_getJ (ci := 3) (k := 0) (by decide +kernel : decode (mB 86) 65 = .ok (.getfield 76, 3)) (by decide +kernel) rfl
theorem t86_68 : rn 86 68 ls [.long u] M = some (some (.long u), M) := r_lreturn (by decide +kernel : decode (mB 86) 68 = .ok (.lreturn, 1)) rfl
theorem t86_69 : rn 86 69 (some (.ref a) :: l) r M = rn 86 70 (some (.ref a) :: l) (.ref a :: r) M := r_aload_n (by decide +kernel : decode (mB 86) 69 = .ok (.aload_n 0, 1)) rfl
theorem t86_70 : rn 86 70 ls (.ref a :: r) M = if mK M a = (10, 0) then rn 86 73 ls (va_rf (mP M a 0) :: r) M else none := r_getP (ci := 0) (k := 0) (by decide +kernel : decode (mB 86) 70 = .ok (.getfield 10, 3)) (by decide +kernel) rfl
theorem t86_73 : rn 86 73 ls (.ref a :: r) M = if mK M a = (11, 0) then rn 86 76 ls (va_rf (mP M a 1) :: r) M else none := r_getP (ci := 1) (k := 1) (by decide +kernel : decode (mB 86) 73 = .ok (.getfield 73, 3)) (by decide +kernel) rfl
theorem t86_76 : rn 86 76 ls (.ref a :: r) M = if mK M a = (13, 0) then rn 86 79 ls (.long (mJ M a 1) :: r) M else none := r_getJ (ci := 3) (k := 1) (by decide +kernel : decode (mB 86) 76 = .ok (.getfield 168, 3)) (by decide +kernel) rfl
theorem t86_79 : rn 86 79 ls [.long u] M = some (some (.long u), M) := r_lreturn (by decide +kernel : decode (mB 86) 79 = .ok (.lreturn, 1)) rfl
theorem t86_80 : rn 86 80 (some (.ref a) :: l) r M = rn 86 81 (some (.ref a) :: l) (.ref a :: r) M := r_aload_n (by decide +kernel : decode (mB 86) 80 = .ok (.aload_n 0, 1)) rfl
theorem t86_81 : rn 86 81 ls (.ref a :: r) M = if mK M a = (10, 0) then rn 86 84 ls (va_rf (mP M a 0) :: r) M else none := r_getP (ci := 0) (k := 0) (by decide +kernel : decode (mB 86) 81 = .ok (.getfield 10, 3)) (by decide +kernel) rfl
theorem t86_84 : rn 86 84 ls (.ref a :: r) M = if mK M a = (11, 0) then rn 86 87 ls (va_rf (mP M a 1) :: r) M else none := r_getP (ci := 1) (k := 1) (by decide +kernel : decode (mB 86) 84 = .ok (.getfield 73, 3)) (by decide +kernel) rfl
theorem t86_87 : rn 86 87 (some (.ref a) :: l) r M = rn 86 88 (some (.ref a) :: l) (.ref a :: r) M := r_aload_n (by decide +kernel : decode (mB 86) 87 = .ok (.aload_n 0, 1)) rfl
theorem t86_88 : rn 86 88 ls (.ref a :: r) M = if mK M a = (10, 0) then rn 86 91 ls (va_rf (mP M a 0) :: r) M else none := r_getP (ci := 0) (k := 0) (by decide +kernel : decode (mB 86) 88 = .ok (.getfield 10, 3)) (by decide +kernel) rfl
theorem t86_91 : rn 86 91 ls (.ref a :: r) M = if mK M a = (11, 0) then rn 86 94 ls (va_rf (mP M a 0) :: r) M else none := r_getP (ci := 1) (k := 0) (by decide +kernel : decode (mB 86) 91 = .ok (.getfield 89, 3)) (by decide +kernel) rfl
theorem t86_94 : rn 86 94 ls [.ref a, .ref b] M = if mK M b = (13, 0) then cbn (cl 48 [.ref b, .ref a] M) 86 97 ls [] else none := r_callV (kd := 0) (by decide +kernel : decode (mB 86) 94 = .ok (.invokevirtual 192, 3)) (by decide +kernel) ((doV_n np_48).trans rfl)
theorem t86_97 : rn 86 97 ls [.long u] M = some (some (.long u), M) := r_lreturn (by decide +kernel : decode (mB 86) 97 = .ok (.lreturn, 1)) rfl
theorem t86_98 : rn 86 98 ls r M = rn 86 101 ls (.long (-2) :: r) M := r_nx (by decide +kernel : decode (mB 86) 98 = .ok (.ldc2_w 196, 3)) rfl rfl
theorem t86_101 : rn 86 101 ls [.long u] M = some (some (.long u), M) := r_lreturn (by decide +kernel : decode (mB 86) 101 = .ok (.lreturn, 1)) rfl
end S2
