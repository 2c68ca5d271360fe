/-! step rows, by program (wip/p29/gen13.py): lawa -/
section S3
variable {a0 a1 a2 a3 a4 a5 a6 a7 a8 a9 a10 a11 a12 a13 a14 a15 a16 a17 a18 a19 a20 a21 a22 a23 : Option Value} {l ls : List (Option Value)} {r : List Value} {M : SM} {x y z w p k : Int32} {u v s : Int64} {a b c d a30 a31 a32 a33 a34 : Nat}

-- 59 DRLaw_cell([II)I
theorem t59_0 : rn 59 0 (a0 :: some (.int x) :: l) r M = rn 59 1 (a0 :: some (.int x) :: l) (.int x :: r) M := r_iload_n (by decide +kernel : decode (mB 59) 0 = .ok (.iload_n 1, 1)) rfl
theorem t59_1 : rn 59 1 (some (.ref a) :: l) r M = rn 59 2 (some (.ref a) :: l) (.ref a :: r) M := r_aload_n (by decide +kernel : decode (mB 59) 1 = .ok (.aload_n 0, 1)) rfl
theorem t59_2 : rn 59 2 ls (.ref a :: r) M = if (mK M a).1 = 1 ∨ (mK M a).1 = 5 then rn 59 3 ls (.int (Int32.ofNat (mK M a).2) :: r) M else none := r_cnd (by decide +kernel : decode (mB 59) 2 = .ok (.arraylength, 1)) rfl rfl
theorem t59_3 : rn 59 3 ls (.int y :: .int x :: r) M = if y ≤ x then rn 59 12 ls r M else rn 59 6 ls r M := r_if (o := 9) (r := r) (c := y ≤ x) (by decide +kernel : decode (mB 59) 3 = .ok (.if_icmp .ge 9, 3)) rfl (by decide) rfl
theorem t59_6 : rn 59 6 (some (.ref a) :: l) r M = rn 59 7 (some (.ref a) :: l) (.ref a :: r) M := r_aload_n (by decide +kernel : decode (mB 59) 6 = .ok (.aload_n 0, 1)) rfl
theorem t59_7 : rn 59 7 (a0 :: some (.int x) :: l) r M = rn 59 8 (a0 :: some (.int x) :: l) (.int x :: r) M := r_iload_n (by decide +kernel : decode (mB 59) 7 = .ok (.iload_n 1, 1)) rfl
theorem t59_8 : rn 59 8 ls (.int x :: .ref a :: r) M = if ((mK M a).1 = 1 ∨ (mK M a).1 = 5) ∧ inR x (mK M a).2 then rn 59 9 ls (.int (mI M a x.toNatClampNeg) :: r) M else none := r_cnd (by decide +kernel : decode (mB 59) 8 = .ok (.iaload, 1)) rfl rfl
theorem t59_9 : rn 59 9 ls r M = rn 59 21 ls r M := r_goto (o := 12) (by decide +kernel : decode (mB 59) 9 = .ok (.goto 12, 3)) (by decide)
theorem t59_12 : rn 59 12 ls r M = rn 59 14 ls (.int 791501339 :: r) M := r_nx (by decide +kernel : decode (mB 59) 12 = .ok (.ldc 7, 2)) rfl rfl
theorem t59_14 : rn 59 14 (a0 :: some (.int x) :: l) r M = rn 59 15 (a0 :: some (.int x) :: l) (.int x :: r) M := r_iload_n (by decide +kernel : decode (mB 59) 14 = .ok (.iload_n 1, 1)) rfl
theorem t59_15 : rn 59 15 ls r M = rn 59 16 ls (.int 1 :: r) M := r_nx (by decide +kernel : decode (mB 59) 15 = .ok (.iconst 1, 1)) rfl rfl
theorem t59_16 : rn 59 16 ls (.int y :: .int x :: r) M = rn 59 17 ls (.int (x + y) :: r) M := r_nx (by decide +kernel : decode (mB 59) 16 = .ok (.iadd, 1)) rfl rfl
theorem t59_17 : rn 59 17 ls (.int y :: .int x :: r) M = rn 59 18 ls (.int (x * y) :: r) M := r_nx (by decide +kernel : decode (mB 59) 17 = .ok (.imul, 1)) rfl rfl
theorem t59_18 : rn 59 18 ls r M = rn 59 20 ls (.int 1248562189 :: r) M := r_nx (by decide +kernel : decode (mB 59) 18 = .ok (.ldc 8, 2)) rfl rfl
theorem t59_20 : rn 59 20 ls (.int y :: .int x :: r) M = rn 59 21 ls (.int (x + y) :: r) M := r_nx (by decide +kernel : decode (mB 59) 20 = .ok (.iadd, 1)) rfl rfl
theorem t59_21 : rn 59 21 ls [.int x] M = some (some (.int x), M) := r_ireturn (by decide +kernel : decode (mB 59) 21 = .ok (.ireturn, 1)) rfl
-- 60 DRLaw_low(II)I
theorem t60_0 : rn 60 0 (some (.int x) :: l) r M = rn 60 1 (some (.int x) :: l) (.int x :: r) M := r_iload_n (by decide +kernel : decode (mB 60) 0 = .ok (.iload_n 0, 1)) rfl
theorem t60_1 : rn 60 1 ls r M = rn 60 3 ls (.int 2147483647 :: r) M := r_nx (by decide +kernel : decode (mB 60) 1 = .ok (.ldc 9, 2)) rfl rfl
theorem t60_3 : rn 60 3 ls (.int y :: .int x :: r) M = rn 60 4 ls (.int (x &&& y) :: r) M := r_nx (by decide +kernel : decode (mB 60) 3 = .ok (.iand, 1)) rfl rfl
theorem t60_4 : rn 60 4 (a0 :: some (.int x) :: l) r M = rn 60 5 (a0 :: some (.int x) :: l) (.int x :: r) M := r_iload_n (by decide +kernel : decode (mB 60) 4 = .ok (.iload_n 1, 1)) rfl
theorem t60_5 (hy : ¬ y = 0) : rn 60 5 ls (.int y :: .int x :: r) M = rn 60 6 ls (.int (x - x / y * y) :: r) M := r_nx (by decide +kernel : decode (mB 60) 5 = .ok (.irem, 1)) rfl (by show Option.map _ (if y = 0 then none else nx _ _ _ _) = _; rw [if_neg hy]; rfl)
theorem t60_6 : rn 60 6 ls [.int x] M = some (some (.int x), M) := r_ireturn (by decide +kernel : decode (mB 60) 6 = .ok (.ireturn, 1)) rfl
-- 61 DRLaw_orphans(I[I[I)I
theorem t61_0 : rn 61 0 ls r M = rn 61 1 ls (.int 0 :: r) M := r_nx (by decide +kernel : decode (mB 61) 0 = .ok (.iconst 0, 1)) rfl rfl
theorem t61_1 : rn 61 1 (a0 :: a1 :: a2 :: a3 :: l) (.int x :: r) M = rn 61 2 (a0 :: a1 :: a2 :: some (.int x) :: l) r M := r_istore_n (by decide +kernel : decode (mB 61) 1 = .ok (.istore_n 3, 1)) (Nat.le_add_left 4 l.length)
theorem t61_2 : rn 61 2 ls r M = rn 61 3 ls (.int 0 :: r) M := r_nx (by decide +kernel : decode (mB 61) 2 = .ok (.iconst 0, 1)) rfl rfl
theorem t61_3 : rn 61 3 (a0 :: a1 :: a2 :: a3 :: a4 :: l) (.int x :: r) M = rn 61 5 (a0 :: a1 :: a2 :: a3 :: some (.int x) :: l) r M := r_istore (by decide +kernel : decode (mB 61) 3 = .ok (.istore 4, 2)) (Nat.le_add_left 5 l.length)
theorem t61_5 : rn 61 5 (a0 :: a1 :: a2 :: a3 :: some (.int x) :: l) r M = rn 61 7 (a0 :: a1 :: a2 :: a3 :: some (.int x) :: l) (.int x :: r) M := r_iload (by decide +kernel : decode (mB 61) 5 = .ok (.iload 4, 2)) rfl
theorem t61_7 : rn 61 7 (a0 :: some (.ref a) :: l) r M = rn 61 8 (a0 :: some (.ref a) :: l) (.ref a :: r) M := r_aload_n (by decide +kernel : decode (mB 61) 7 = .ok (.aload_n 1, 1)) rfl
theorem t61_8 : rn 61 8 ls r M = rn 61 9 ls (.int 0 :: r) M := r_nx (by decide +kernel : decode (mB 61) 8 = .ok (.iconst 0, 1)) rfl rfl
theorem t61_9 : rn 61 9 ls (.int x :: .ref a :: r) M = if ((mK M a).1 = 1 ∨ (mK M a).1 = 5) ∧ inR x (mK M a).2 then rn 61 10 ls (.int (mI M a x.toNatClampNeg) :: r) M else none := r_cnd (by decide +kernel : decode (mB 61) 9 = .ok (.iaload, 1)) rfl rfl
theorem t61_10 : rn 61 10 ls (.int y :: .int x :: r) M = if y ≤ x then rn 61 50 ls r M else rn 61 13 ls r M := r_if (o := 40) (r := r) (c := y ≤ x) (by decide +kernel : decode (mB 61) 10 = .ok (.if_icmp .ge 40, 3)) rfl (by decide) rfl
theorem t61_13 : rn 61 13 (a0 :: a1 :: a2 :: some (.int x) :: l) r M = rn 61 14 (a0 :: a1 :: a2 :: some (.int x) :: l) (.int x :: r) M := r_iload_n (by decide +kernel : decode (mB 61) 13 = .ok (.iload_n 3, 1)) rfl
theorem t61_14 : rn 61 14 (some (.int x) :: l) r M = rn 61 15 (some (.int x) :: l) (.int x :: r) M := r_iload_n (by decide +kernel : decode (mB 61) 14 = .ok (.iload_n 0, 1)) rfl
theorem t61_15 : rn 61 15 (a0 :: a1 :: a2 :: a3 :: some (.int x) :: l) r M = rn 61 17 (a0 :: a1 :: a2 :: a3 :: some (.int x) :: l) (.int x :: r) M := r_iload (by decide +kernel : decode (mB 61) 15 = .ok (.iload 4, 2)) rfl
theorem t61_17 : rn 61 17 ls (.int y :: .int x :: r) M = rn 61 18 ls (.int (x >>> (y &&& 31)) :: r) M := r_nx (by decide +kernel : decode (mB 61) 17 = .ok (.ishr, 1)) rfl rfl
theorem t61_18 : rn 61 18 ls r M = rn 61 19 ls (.int 1 :: r) M := r_nx (by decide +kernel : decode (mB 61) 18 = .ok (.iconst 1, 1)) rfl rfl
theorem t61_19 : rn 61 19 ls (.int y :: .int x :: r) M = rn 61 20 ls (.int (x &&& y) :: r) M := r_nx (by decide +kernel : decode (mB 61) 19 = .ok (.iand, 1)) rfl rfl
theorem t61_20 : rn 61 20 ls (.int x :: r) M = if ¬ x = 0 then rn 61 41 ls r M else rn 61 23 ls r M := r_if (o := 21) (r := r) (c := ¬ x = 0) (by decide +kernel : decode (mB 61) 20 = .ok (.ifCond .ne 21, 3)) rfl (by decide) rfl
theorem t61_23 : rn 61 23 (a0 :: a1 :: a2 :: a3 :: some (.int x) :: l) r M = rn 61 25 (a0 :: a1 :: a2 :: a3 :: some (.int x) :: l) (.int x :: r) M := r_iload (by decide +kernel : decode (mB 61) 23 = .ok (.iload 4, 2)) rfl
theorem t61_25 : rn 61 25 (a0 :: a1 :: some (.ref a) :: l) r M = rn 61 26 (a0 :: a1 :: some (.ref a) :: l) (.ref a :: r) M := r_aload_n (by decide +kernel : decode (mB 61) 25 = .ok (.aload_n 2, 1)) rfl
theorem t61_26 : rn 61 26 ls [.ref a, .int x, .int y] M = cbn (cl 62 [.int x, .ref a] M) 61 29 ls [.int y] := r_callS (kd := 2) (by decide +kernel : decode (mB 61) 26 = .ok (.invokestatic 10, 3)) (by decide +kernel) (by decide +kernel) ((doS_n np_62).trans rfl)
theorem t61_29 : rn 61 29 (some (.int x) :: l) r M = rn 61 30 (some (.int x) :: l) (.int x :: r) M := r_iload_n (by decide +kernel : decode (mB 61) 29 = .ok (.iload_n 0, 1)) rfl
theorem t61_30 : rn 61 30 ls (.int y :: .int x :: r) M = rn 61 31 ls (.int (x &&& y) :: r) M := r_nx (by decide +kernel : decode (mB 61) 30 = .ok (.iand, 1)) rfl rfl
theorem t61_31 : rn 61 31 ls (.int x :: r) M = if x = 0 then rn 61 41 ls r M else rn 61 34 ls r M := r_if (o := 10) (r := r) (c := x = 0) (by decide +kernel : decode (mB 61) 31 = .ok (.ifCond .eq 10, 3)) rfl (by decide) rfl
theorem t61_34 : rn 61 34 ls r M = rn 61 35 ls (.int 1 :: r) M := r_nx (by decide +kernel : decode (mB 61) 34 = .ok (.iconst 1, 1)) rfl rfl
theorem t61_35 : rn 61 35 (a0 :: a1 :: a2 :: a3 :: some (.int x) :: l) r M = rn 61 37 (a0 :: a1 :: a2 :: a3 :: some (.int x) :: l) (.int x :: r) M := r_iload (by decide +kernel : decode (mB 61) 35 = .ok (.iload 4, 2)) rfl
theorem t61_37 : rn 61 37 ls (.int y :: .int x :: r) M = rn 61 38 ls (.int (x <<< (y &&& 31)) :: r) M := r_nx (by decide +kernel : decode (mB 61) 37 = .ok (.ishl, 1)) rfl rfl
theorem t61_38 : rn 61 38 ls r M = rn 61 42 ls r M := r_goto (o := 4) (by decide +kernel : decode (mB 61) 38 = .ok (.goto 4, 3)) (by decide)
theorem t61_41 : rn 61 41 ls r M = rn 61 42 ls (.int 0 :: r) M := r_nx (by decide +kernel : decode (mB 61) 41 = .ok (.iconst 0, 1)) rfl rfl
theorem t61_42 : rn 61 42 ls (.int y :: .int x :: r) M = rn 61 43 ls (.int (x ||| y) :: r) M := r_nx (by decide +kernel : decode (mB 61) 42 = .ok (.ior, 1)) rfl rfl
theorem t61_43 : rn 61 43 (a0 :: a1 :: a2 :: a3 :: l) (.int x :: r) M = rn 61 44 (a0 :: a1 :: a2 :: some (.int x) :: l) r M := r_istore_n (by decide +kernel : decode (mB 61) 43 = .ok (.istore_n 3, 1)) (Nat.le_add_left 4 l.length)
theorem t61_44 : rn 61 44 (a0 :: a1 :: a2 :: a3 :: some (.int x) :: l) r M = rn 61 47 (a0 :: a1 :: a2 :: a3 :: some (.int (x + 1)) :: l) r M := r_iinc (by decide +kernel : decode (mB 61) 44 = .ok (.iinc 4 1, 3)) rfl
theorem t61_47 : rn 61 47 ls r M = rn 61 5 ls r M := r_goto (o := (-42)) (by decide +kernel : decode (mB 61) 47 = .ok (.goto (-42), 3)) (by decide)
theorem t61_50 : rn 61 50 (a0 :: a1 :: a2 :: some (.int x) :: l) r M = rn 61 51 (a0 :: a1 :: a2 :: some (.int x) :: l) (.int x :: r) M := r_iload_n (by decide +kernel : decode (mB 61) 50 = .ok (.iload_n 3, 1)) rfl
theorem t61_51 : rn 61 51 ls [.int x] M = some (some (.int x), M) := r_ireturn (by decide +kernel : decode (mB 61) 51 = .ok (.ireturn, 1)) rfl
-- 62 DRLaw_leans(I[I)I
theorem t62_0 : rn 62 0 (a0 :: some (.ref a) :: l) r M = rn 62 1 (a0 :: some (.ref a) :: l) (.ref a :: r) M := r_aload_n (by decide +kernel : decode (mB 62) 0 = .ok (.aload_n 1, 1)) rfl
theorem t62_1 : rn 62 1 (some (.int x) :: l) r M = rn 62 2 (some (.int x) :: l) (.int x :: r) M := r_iload_n (by decide +kernel : decode (mB 62) 1 = .ok (.iload_n 0, 1)) rfl
theorem t62_2 : rn 62 2 ls (.int x :: .ref a :: r) M = if ((mK M a).1 = 1 ∨ (mK M a).1 = 5) ∧ inR x (mK M a).2 then rn 62 3 ls (.int (mI M a x.toNatClampNeg) :: r) M else none := r_cnd (by decide +kernel : decode (mB 62) 2 = .ok (.iaload, 1)) rfl rfl
theorem t62_3 : rn 62 3 (a0 :: a1 :: a2 :: l) (.int x :: r) M = rn 62 4 (a0 :: a1 :: some (.int x) :: l) r M := r_istore_n (by decide +kernel : decode (mB 62) 3 = .ok (.istore_n 2, 1)) (Nat.le_add_left 3 l.length)
theorem t62_4 : rn 62 4 (some (.int x) :: l) r M = rn 62 5 (some (.int x) :: l) (.int x :: r) M := r_iload_n (by decide +kernel : decode (mB 62) 4 = .ok (.iload_n 0, 1)) rfl
theorem t62_5 : rn 62 5 ls r M = rn 62 6 ls (.int 1 :: r) M := r_nx (by decide +kernel : decode (mB 62) 5 = .ok (.iconst 1, 1)) rfl rfl
theorem t62_6 : rn 62 6 ls (.int y :: .int x :: r) M = rn 62 7 ls (.int (x - y) :: r) M := r_nx (by decide +kernel : decode (mB 62) 6 = .ok (.isub, 1)) rfl rfl
theorem t62_7 : rn 62 7 (a0 :: a1 :: a2 :: a3 :: l) (.int x :: r) M = rn 62 8 (a0 :: a1 :: a2 :: some (.int x) :: l) r M := r_istore_n (by decide +kernel : decode (mB 62) 7 = .ok (.istore_n 3, 1)) (Nat.le_add_left 4 l.length)
theorem t62_8 : rn 62 8 (a0 :: a1 :: a2 :: some (.int x) :: l) r M = rn 62 9 (a0 :: a1 :: a2 :: some (.int x) :: l) (.int x :: r) M := r_iload_n (by decide +kernel : decode (mB 62) 8 = .ok (.iload_n 3, 1)) rfl
theorem t62_9 : rn 62 9 ls (.int x :: r) M = if x < 0 then rn 62 37 ls r M else rn 62 12 ls r M := r_if (o := 28) (r := r) (c := x < 0) (by decide +kernel : decode (mB 62) 9 = .ok (.ifCond .lt 28, 3)) rfl (by decide) rfl
theorem t62_12 : rn 62 12 (a0 :: a1 :: some (.int x) :: l) r M = rn 62 13 (a0 :: a1 :: some (.int x) :: l) (.int x :: r) M := r_iload_n (by decide +kernel : decode (mB 62) 12 = .ok (.iload_n 2, 1)) rfl
theorem t62_13 : rn 62 13 (a0 :: a1 :: some (.int x) :: l) r M = rn 62 14 (a0 :: a1 :: some (.int x) :: l) (.int x :: r) M := r_iload_n (by decide +kernel : decode (mB 62) 13 = .ok (.iload_n 2, 1)) rfl
theorem t62_14 : rn 62 14 (a0 :: a1 :: a2 :: some (.int x) :: l) r M = rn 62 15 (a0 :: a1 :: a2 :: some (.int x) :: l) (.int x :: r) M := r_iload_n (by decide +kernel : decode (mB 62) 14 = .ok (.iload_n 3, 1)) rfl
theorem t62_15 : rn 62 15 ls (.int y :: .int x :: r) M = rn 62 16 ls (.int (x >>> (y &&& 31)) :: r) M := r_nx (by decide +kernel : decode (mB 62) 15 = .ok (.ishr, 1)) rfl rfl
theorem t62_16 : rn 62 16 ls r M = rn 62 17 ls (.int 1 :: r) M := r_nx (by decide +kernel : decode (mB 62) 16 = .ok (.iconst 1, 1)) rfl rfl
theorem t62_17 : rn 62 17 ls (.int y :: .int x :: r) M = rn 62 18 ls (.int (x &&& y) :: r) M := r_nx (by decide +kernel : decode (mB 62) 17 = .ok (.iand, 1)) rfl rfl
theorem t62_18 : rn 62 18 ls r M = rn 62 19 ls (.int 1 :: r) M := r_nx (by decide +kernel : decode (mB 62) 18 = .ok (.iconst 1, 1)) rfl rfl
theorem t62_19 : rn 62 19 ls (.int y :: .int x :: r) M = if ¬ x = y then rn 62 28 ls r M else rn 62 22 ls r M := r_if (o := 9) (r := r) (c := ¬ x = y) (by decide +kernel : decode (mB 62) 19 = .ok (.if_icmp .ne 9, 3)) rfl (by decide) rfl
theorem t62_22 : rn 62 22 (a0 :: some (.ref a) :: l) r M = rn 62 23 (a0 :: some (.ref a) :: l) (.ref a :: r) M := r_aload_n (by decide +kernel : decode (mB 62) 22 = .ok (.aload_n 1, 1)) rfl
theorem t62_23 : rn 62 23 (a0 :: a1 :: a2 :: some (.int x) :: l) r M = rn 62 24 (a0 :: a1 :: a2 :: some (.int x) :: l) (.int x :: r) M := r_iload_n (by decide +kernel : decode (mB 62) 23 = .ok (.iload_n 3, 1)) rfl
theorem t62_24 : rn 62 24 ls (.int x :: .ref a :: r) M = if ((mK M a).1 = 1 ∨ (mK M a).1 = 5) ∧ inR x (mK M a).2 then rn 62 25 ls (.int (mI M a x.toNatClampNeg) :: r) M else none := r_cnd (by decide +kernel : decode (mB 62) 24 = .ok (.iaload, 1)) rfl rfl
theorem t62_25 : rn 62 25 ls r M = rn 62 29 ls r M := r_goto (o := 4) (by decide +kernel : decode (mB 62) 25 = .ok (.goto 4, 3)) (by decide)
theorem t62_28 : rn 62 28 ls r M = rn 62 29 ls (.int 0 :: r) M := r_nx (by decide +kernel : decode (mB 62) 28 = .ok (.iconst 0, 1)) rfl rfl
theorem t62_29 : rn 62 29 ls (.int y :: .int x :: r) M = rn 62 30 ls (.int (x ||| y) :: r) M := r_nx (by decide +kernel : decode (mB 62) 29 = .ok (.ior, 1)) rfl rfl
theorem t62_30 : rn 62 30 (a0 :: a1 :: a2 :: l) (.int x :: r) M = rn 62 31 (a0 :: a1 :: some (.int x) :: l) r M := r_istore_n (by decide +kernel : decode (mB 62) 30 = .ok (.istore_n 2, 1)) (Nat.le_add_left 3 l.length)
theorem t62_31 : rn 62 31 (a0 :: a1 :: a2 :: some (.int x) :: l) r M = rn 62 34 (a0 :: a1 :: a2 :: some (.int (x + (-1))) :: l) r M := r_iinc (by decide +kernel : decode (mB 62) 31 = .ok (.iinc 3 (-1), 3)) rfl
theorem t62_34 : rn 62 34 ls r M = rn 62 8 ls r M := r_goto (o := (-26)) (by decide +kernel : decode (mB 62) 34 = .ok (.goto (-26), 3)) (by decide)
theorem t62_37 : rn 62 37 (a0 :: a1 :: some (.int x) :: l) r M = rn 62 38 (a0 :: a1 :: some (.int x) :: l) (.int x :: r) M := r_iload_n (by decide +kernel : decode (mB 62) 37 = .ok (.iload_n 2, 1)) rfl
theorem t62_38 : rn 62 38 ls [.int x] M = some (some (.int x), M) := r_ireturn (by decide +kernel : decode (mB 62) 38 = .ok (.ireturn, 1)) rfl
-- 63 DRLaw_bits(I)I
theorem t63_0 : rn 63 0 ls r M = rn 63 1 ls (.int 0 :: r) M := r_nx (by decide +kernel : decode (mB 63) 0 = .ok (.iconst 0, 1)) rfl rfl
theorem t63_1 : rn 63 1 (a0 :: a1 :: l) (.int x :: r) M = rn 63 2 (a0 :: some (.int x) :: l) r M := r_istore_n (by decide +kernel : decode (mB 63) 1 = .ok (.istore_n 1, 1)) (Nat.le_add_left 2 l.length)
theorem t63_2 : rn 63 2 (some (.int x) :: l) r M = rn 63 3 (some (.int x) :: l) (.int x :: r) M := r_iload_n (by decide +kernel : decode (mB 63) 2 = .ok (.iload_n 0, 1)) rfl
theorem t63_3 : rn 63 3 (a0 :: a1 :: a2 :: l) (.int x :: r) M = rn 63 4 (a0 :: a1 :: some (.int x) :: l) r M := r_istore_n (by decide +kernel : decode (mB 63) 3 = .ok (.istore_n 2, 1)) (Nat.le_add_left 3 l.length)
theorem t63_4 : rn 63 4 (a0 :: a1 :: some (.int x) :: l) r M = rn 63 5 (a0 :: a1 :: some (.int x) :: l) (.int x :: r) M := r_iload_n (by decide +kernel : decode (mB 63) 4 = .ok (.iload_n 2, 1)) rfl
theorem t63_5 : rn 63 5 ls (.int x :: r) M = if x = 0 then rn 63 20 ls r M else rn 63 8 ls r M := r_if (o := 15) (r := r) (c := x = 0) (by decide +kernel : decode (mB 63) 5 = .ok (.ifCond .eq 15, 3)) rfl (by decide) rfl
theorem t63_8 : rn 63 8 (a0 :: some (.int x) :: l) r M = rn 63 11 (a0 :: some (.int (x + 1)) :: l) r M := r_iinc (by decide +kernel : decode (mB 63) 8 = .ok (.iinc 1 1, 3)) rfl
theorem t63_11 : rn 63 11 (a0 :: a1 :: some (.int x) :: l) r M = rn 63 12 (a0 :: a1 :: some (.int x) :: l) (.int x :: r) M := r_iload_n (by decide +kernel : decode (mB 63) 11 = .ok (.iload_n 2, 1)) rfl
theorem t63_12 : rn 63 12 (a0 :: a1 :: some (.int x) :: l) r M = rn 63 13 (a0 :: a1 :: some (.int x) :: l) (.int x :: r) M := r_iload_n (by decide +kernel : decode (mB 63) 12 = .ok (.iload_n 2, 1)) rfl
theorem t63_13 : rn 63 13 ls r M = rn 63 14 ls (.int 1 :: r) M := r_nx (by decide +kernel : decode (mB 63) 13 = .ok (.iconst 1, 1)) rfl rfl
theorem t63_14 : rn 63 14 ls (.int y :: .int x :: r) M = rn 63 15 ls (.int (x - y) :: r) M := r_nx (by decide +kernel : decode (mB 63) 14 = .ok (.isub, 1)) rfl rfl
theorem t63_15 : rn 63 15 ls (.int y :: .int x :: r) M = rn 63 16 ls (.int (x &&& y) :: r) M := r_nx (by decide +kernel : decode (mB 63) 15 = .ok (.iand, 1)) rfl rfl
theorem t63_16 : rn 63 16 (a0 :: a1 :: a2 :: l) (.int x :: r) M = rn 63 17 (a0 :: a1 :: some (.int x) :: l) r M := r_istore_n (by decide +kernel : decode (mB 63) 16 = .ok (.istore_n 2, 1)) (Nat.le_add_left 3 l.length)
theorem t63_17 : rn 63 17 ls r M = rn 63 4 ls r M := r_goto (o := (-13)) (by decide +kernel : decode (mB 63) 17 = .ok (.goto (-13), 3)) (by decide)
theorem t63_20 : rn 63 20 (a0 :: some (.int x) :: l) r M = rn 63 21 (a0 :: some (.int x) :: l) (.int x :: r) M := r_iload_n (by decide +kernel : decode (mB 63) 20 = .ok (.iload_n 1, 1)) rfl
theorem t63_21 : rn 63 21 ls [.int x] M = some (some (.int x), M) := r_ireturn (by decide +kernel : decode (mB 63) 21 = .ok (.ireturn, 1)) rfl
-- 64 DRLaw_root([I)V
theorem t64_0 : rn 64 0 ls r M = rn 64 1 ls (.int 0 :: r) M := r_nx (by decide +kernel : decode (mB 64) 0 = .ok (.iconst 0, 1)) rfl rfl
theorem t64_1 : rn 64 1 (a0 :: a1 :: l) (.int x :: r) M = rn 64 2 (a0 :: some (.int x) :: l) r M := r_istore_n (by decide +kernel : decode (mB 64) 1 = .ok (.istore_n 1, 1)) (Nat.le_add_left 2 l.length)
theorem t64_2 : rn 64 2 (a0 :: some (.int x) :: l) r M = rn 64 3 (a0 :: some (.int x) :: l) (.int x :: r) M := r_iload_n (by decide +kernel : decode (mB 64) 2 = .ok (.iload_n 1, 1)) rfl
theorem t64_3 : rn 64 3 ls r M = rn 64 5 ls (.int 12 :: r) M := r_nx (by decide +kernel : decode (mB 64) 3 = .ok (.bipush 12, 2)) rfl rfl
theorem t64_5 : rn 64 5 ls (.int y :: .int x :: r) M = if y ≤ x then rn 64 19 ls r M else rn 64 8 ls r M := r_if (o := 14) (r := r) (c := y ≤ x) (by decide +kernel : decode (mB 64) 5 = .ok (.if_icmp .ge 14, 3)) rfl (by decide) rfl
theorem t64_8 : rn 64 8 (some (.ref a) :: l) r M = rn 64 9 (some (.ref a) :: l) (.ref a :: r) M := r_aload_n (by decide +kernel : decode (mB 64) 8 = .ok (.aload_n 0, 1)) rfl
theorem t64_9 : rn 64 9 (a0 :: some (.int x) :: l) r M = rn 64 10 (a0 :: some (.int x) :: l) (.int x :: r) M := r_iload_n (by decide +kernel : decode (mB 64) 9 = .ok (.iload_n 1, 1)) rfl
theorem t64_10 : rn 64 10 ls r M = rn 64 12 ls (.int (-9) :: r) M := r_nx (by decide +kernel : decode (mB 64) 10 = .ok (.bipush (-9), 2)) rfl rfl
theorem t64_12 : rn 64 12 ls (.int y :: .int x :: .ref a :: r) M = if (mK M a).1 = 1 ∧ inR x (mK M a).2 then rn 64 13 ls r (sI M a (va_up (mI M a) x.toNatClampNeg y)) else none := r_cnd (by decide +kernel : decode (mB 64) 12 = .ok (.iastore, 1)) rfl rfl
theorem t64_13 : rn 64 13 (a0 :: some (.int x) :: l) r M = rn 64 16 (a0 :: some (.int (x + 1)) :: l) r M := r_iinc (by decide +kernel : decode (mB 64) 13 = .ok (.iinc 1 1, 3)) rfl
theorem t64_16 : rn 64 16 ls r M = rn 64 2 ls r M := r_goto (o := (-14)) (by decide +kernel : decode (mB 64) 16 = .ok (.goto (-14), 3)) (by decide)
theorem t64_19 : rn 64 19 (some (.ref a) :: l) r M = rn 64 20 (some (.ref a) :: l) (.ref a :: r) M := r_aload_n (by decide +kernel : decode (mB 64) 19 = .ok (.aload_n 0, 1)) rfl
theorem t64_20 : rn 64 20 ls r M = rn 64 21 ls (.int 0 :: r) M := r_nx (by decide +kernel : decode (mB 64) 20 = .ok (.iconst 0, 1)) rfl rfl
theorem t64_21 : rn 64 21 ls r M = rn 64 23 ls (.int (-6) :: r) M := r_nx (by decide +kernel : decode (mB 64) 21 = .ok (.bipush (-6), 2)) rfl rfl
theorem t64_23 : rn 64 23 ls (.int y :: .int x :: .ref a :: r) M = if (mK M a).1 = 1 ∧ inR x (mK M a).2 then rn 64 24 ls r (sI M a (va_up (mI M a) x.toNatClampNeg y)) else none := r_cnd (by decide +kernel : decode (mB 64) 23 = .ok (.iastore, 1)) rfl rfl
theorem t64_24 : rn 64 24 (some (.ref a) :: l) r M = rn 64 25 (some (.ref a) :: l) (.ref a :: r) M := r_aload_n (by decide +kernel : decode (mB 64) 24 = .ok (.aload_n 0, 1)) rfl
theorem t64_25 : rn 64 25 ls r M = rn 64 26 ls (.int 1 :: r) M := r_nx (by decide +kernel : decode (mB 64) 25 = .ok (.iconst 1, 1)) rfl rfl
theorem t64_26 : rn 64 26 ls r M = rn 64 27 ls (.int 0 :: r) M := r_nx (by decide +kernel : decode (mB 64) 26 = .ok (.iconst 0, 1)) rfl rfl
theorem t64_27 : rn 64 27 ls (.int y :: .int x :: .ref a :: r) M = if (mK M a).1 = 1 ∧ inR x (mK M a).2 then rn 64 28 ls r (sI M a (va_up (mI M a) x.toNatClampNeg y)) else none := r_cnd (by decide +kernel : decode (mB 64) 27 = .ok (.iastore, 1)) rfl rfl
theorem t64_28 : rn 64 28 ls [] M = some (none, M) := r_vreturn (by decide +kernel : decode (mB 64) 28 = .ok (.return_, 1)) rfl
-- 65 DRLaw_ready([I[I[I)I
theorem t65_0 : rn 65 0 ls r M = rn 65 1 ls (.int 0 :: r) M := r_nx (by decide +kernel : decode (mB 65) 0 = .ok (.iconst 0, 1)) rfl rfl
theorem t65_1 : rn 65 1 (a0 :: a1 :: a2 :: a3 :: l) (.int x :: r) M = rn 65 2 (a0 :: a1 :: a2 :: some (.int x) :: l) r M := r_istore_n (by decide +kernel : decode (mB 65) 1 = .ok (.istore_n 3, 1)) (Nat.le_add_left 4 l.length)
theorem t65_2 : rn 65 2 ls r M = rn 65 3 ls (.int 0 :: r) M := r_nx (by decide +kernel : decode (mB 65) 2 = .ok (.iconst 0, 1)) rfl rfl
theorem t65_3 : rn 65 3 (a0 :: a1 :: a2 :: a3 :: a4 :: l) (.int x :: r) M = rn 65 5 (a0 :: a1 :: a2 :: a3 :: some (.int x) :: l) r M := r_istore (by decide +kernel : decode (mB 65) 3 = .ok (.istore 4, 2)) (Nat.le_add_left 5 l.length)
theorem t65_5 : rn 65 5 (a0 :: a1 :: a2 :: a3 :: some (.int x) :: l) r M = rn 65 7 (a0 :: a1 :: a2 :: a3 :: some (.int x) :: l) (.int x :: r) M := r_iload (by decide +kernel : decode (mB 65) 5 = .ok (.iload 4, 2)) rfl
theorem t65_7 : rn 65 7 (some (.ref a) :: l) r M = rn 65 8 (some (.ref a) :: l) (.ref a :: r) M := r_aload_n (by decide +kernel : decode (mB 65) 7 = .ok (.aload_n 0, 1)) rfl
theorem t65_8 : rn 65 8 ls r M = rn 65 9 ls (.int 0 :: r) M := r_nx (by decide +kernel : decode (mB 65) 8 = .ok (.iconst 0, 1)) rfl rfl
theorem t65_9 : rn 65 9 ls (.int x :: .ref a :: r) M = if ((mK M a).1 = 1 ∨ (mK M a).1 = 5) ∧ inR x (mK M a).2 then rn 65 10 ls (.int (mI M a x.toNatClampNeg) :: r) M else none := r_cnd (by decide +kernel : decode (mB 65) 9 = .ok (.iaload, 1)) rfl rfl
theorem t65_10 : rn 65 10 ls (.int y :: .int x :: r) M = if y ≤ x then rn 65 41 ls r M else rn 65 13 ls r M := r_if (o := 31) (r := r) (c := y ≤ x) (by decide +kernel : decode (mB 65) 10 = .ok (.if_icmp .ge 31, 3)) rfl (by decide) rfl
theorem t65_13 : rn 65 13 (a0 :: a1 :: a2 :: some (.int x) :: l) r M = rn 65 14 (a0 :: a1 :: a2 :: some (.int x) :: l) (.int x :: r) M := r_iload_n (by decide +kernel : decode (mB 65) 13 = .ok (.iload_n 3, 1)) rfl
theorem t65_14 : rn 65 14 (a0 :: some (.ref a) :: l) r M = rn 65 15 (a0 :: some (.ref a) :: l) (.ref a :: r) M := r_aload_n (by decide +kernel : decode (mB 65) 14 = .ok (.aload_n 1, 1)) rfl
theorem t65_15 : rn 65 15 ls r M = rn 65 16 ls (.int 5 :: r) M := r_nx (by decide +kernel : decode (mB 65) 15 = .ok (.iconst 5, 1)) rfl rfl
theorem t65_16 : rn 65 16 (a0 :: a1 :: a2 :: a3 :: some (.int x) :: l) r M = rn 65 18 (a0 :: a1 :: a2 :: a3 :: some (.int x) :: l) (.int x :: r) M := r_iload (by decide +kernel : decode (mB 65) 16 = .ok (.iload 4, 2)) rfl
theorem t65_18 : rn 65 18 ls (.int y :: .int x :: r) M = rn 65 19 ls (.int (x * y) :: r) M := r_nx (by decide +kernel : decode (mB 65) 18 = .ok (.imul, 1)) rfl rfl
theorem t65_19 : rn 65 19 ls r M = rn 65 20 ls (.int 3 :: r) M := r_nx (by decide +kernel : decode (mB 65) 19 = .ok (.iconst 3, 1)) rfl rfl
theorem t65_20 : rn 65 20 ls (.int y :: .int x :: r) M = rn 65 21 ls (.int (x + y) :: r) M := r_nx (by decide +kernel : decode (mB 65) 20 = .ok (.iadd, 1)) rfl rfl
theorem t65_21 : rn 65 21 ls (.int x :: .ref a :: r) M = if ((mK M a).1 = 1 ∨ (mK M a).1 = 5) ∧ inR x (mK M a).2 then rn 65 22 ls (.int (mI M a x.toNatClampNeg) :: r) M else none := r_cnd (by decide +kernel : decode (mB 65) 21 = .ok (.iaload, 1)) rfl rfl
theorem t65_22 : rn 65 22 ls (.int x :: r) M = if x < 0 then rn 65 32 ls r M else rn 65 25 ls r M := r_if (o := 10) (r := r) (c := x < 0) (by decide +kernel : decode (mB 65) 22 = .ok (.ifCond .lt 10, 3)) rfl (by decide) rfl
theorem t65_25 : rn 65 25 ls r M = rn 65 26 ls (.int 1 :: r) M := r_nx (by decide +kernel : decode (mB 65) 25 = .ok (.iconst 1, 1)) rfl rfl
theorem t65_26 : rn 65 26 (a0 :: a1 :: a2 :: a3 :: some (.int x) :: l) r M = rn 65 28 (a0 :: a1 :: a2 :: a3 :: some (.int x) :: l) (.int x :: r) M := r_iload (by decide +kernel : decode (mB 65) 26 = .ok (.iload 4, 2)) rfl
theorem t65_28 : rn 65 28 ls (.int y :: .int x :: r) M = rn 65 29 ls (.int (x <<< (y &&& 31)) :: r) M := r_nx (by decide +kernel : decode (mB 65) 28 = .ok (.ishl, 1)) rfl rfl
theorem t65_29 : rn 65 29 ls r M = rn 65 33 ls r M := r_goto (o := 4) (by decide +kernel : decode (mB 65) 29 = .ok (.goto 4, 3)) (by decide)
theorem t65_32 : rn 65 32 ls r M = rn 65 33 ls (.int 0 :: r) M := r_nx (by decide +kernel : decode (mB 65) 32 = .ok (.iconst 0, 1)) rfl rfl
theorem t65_33 : rn 65 33 ls (.int y :: .int x :: r) M = rn 65 34 ls (.int (x ||| y) :: r) M := r_nx (by decide +kernel : decode (mB 65) 33 = .ok (.ior, 1)) rfl rfl
theorem t65_34 : rn 65 34 (a0 :: a1 :: a2 :: a3 :: l) (.int x :: r) M = rn 65 35 (a0 :: a1 :: a2 :: some (.int x) :: l) r M := r_istore_n (by decide +kernel : decode (mB 65) 34 = .ok (.istore_n 3, 1)) (Nat.le_add_left 4 l.length)
theorem t65_35 : rn 65 35 (a0 :: a1 :: a2 :: a3 :: some (.int x) :: l) r M = rn 65 38 (a0 :: a1 :: a2 :: a3 :: some (.int (x + 1)) :: l) r M := r_iinc (by decide +kernel : decode (mB 65) 35 = .ok (.iinc 4 1, 3)) rfl
theorem t65_38 : rn 65 38 ls r M = rn 65 5 ls r M := r_goto (o := (-33)) (by decide +kernel : decode (mB 65) 38 = .ok (.goto (-33), 3)) (by decide)
theorem t65_41 : rn 65 41 ls r M = rn 65 42 ls (.int 0 :: r) M := r_nx (by decide +kernel : decode (mB 65) 41 = .ok (.iconst 0, 1)) rfl rfl
theorem t65_42 : rn 65 42 (a0 :: a1 :: a2 :: a3 :: a4 :: l) (.int x :: r) M = rn 65 44 (a0 :: a1 :: a2 :: a3 :: some (.int x) :: l) r M := r_istore (by decide +kernel : decode (mB 65) 42 = .ok (.istore 4, 2)) (Nat.le_add_left 5 l.length)
theorem t65_44 : rn 65 44 ls r M = rn 65 45 ls (.int 0 :: r) M := r_nx (by decide +kernel : decode (mB 65) 44 = .ok (.iconst 0, 1)) rfl rfl
theorem t65_45 : rn 65 45 (a0 :: a1 :: a2 :: a3 :: a4 :: a5 :: l) (.int x :: r) M = rn 65 47 (a0 :: a1 :: a2 :: a3 :: a4 :: some (.int x) :: l) r M := r_istore (by decide +kernel : decode (mB 65) 45 = .ok (.istore 5, 2)) (Nat.le_add_left 6 l.length)
theorem t65_47 : rn 65 47 (a0 :: a1 :: a2 :: a3 :: a4 :: some (.int x) :: l) r M = rn 65 49 (a0 :: a1 :: a2 :: a3 :: a4 :: some (.int x) :: l) (.int x :: r) M := r_iload (by decide +kernel : decode (mB 65) 47 = .ok (.iload 5, 2)) rfl
theorem t65_49 : rn 65 49 (some (.ref a) :: l) r M = rn 65 50 (some (.ref a) :: l) (.ref a :: r) M := r_aload_n (by decide +kernel : decode (mB 65) 49 = .ok (.aload_n 0, 1)) rfl
theorem t65_50 : rn 65 50 ls r M = rn 65 51 ls (.int 0 :: r) M := r_nx (by decide +kernel : decode (mB 65) 50 = .ok (.iconst 0, 1)) rfl rfl
theorem t65_51 : rn 65 51 ls (.int x :: .ref a :: r) M = if ((mK M a).1 = 1 ∨ (mK M a).1 = 5) ∧ inR x (mK M a).2 then rn 65 52 ls (.int (mI M a x.toNatClampNeg) :: r) M else none := r_cnd (by decide +kernel : decode (mB 65) 51 = .ok (.iaload, 1)) rfl rfl
theorem t65_52 : rn 65 52 ls (.int y :: .int x :: r) M = if y ≤ x then rn 65 98 ls r M else rn 65 55 ls r M := r_if (o := 46) (r := r) (c := y ≤ x) (by decide +kernel : decode (mB 65) 52 = .ok (.if_icmp .ge 46, 3)) rfl (by decide) rfl
theorem t65_55 : rn 65 55 (a0 :: a1 :: a2 :: a3 :: some (.int x) :: l) r M = rn 65 57 (a0 :: a1 :: a2 :: a3 :: some (.int x) :: l) (.int x :: r) M := r_iload (by decide +kernel : decode (mB 65) 55 = .ok (.iload 4, 2)) rfl
theorem t65_57 : rn 65 57 (a0 :: a1 :: a2 :: some (.int x) :: l) r M = rn 65 58 (a0 :: a1 :: a2 :: some (.int x) :: l) (.int x :: r) M := r_iload_n (by decide +kernel : decode (mB 65) 57 = .ok (.iload_n 3, 1)) rfl
theorem t65_58 : rn 65 58 (some (.ref a) :: l) r M = rn 65 59 (some (.ref a) :: l) (.ref a :: r) M := r_aload_n (by decide +kernel : decode (mB 65) 58 = .ok (.aload_n 0, 1)) rfl
theorem t65_59 : rn 65 59 ls r M = rn 65 60 ls (.int 2 :: r) M := r_nx (by decide +kernel : decode (mB 65) 59 = .ok (.iconst 2, 1)) rfl rfl
theorem t65_60 : rn 65 60 ls (.int x :: .ref a :: r) M = if ((mK M a).1 = 1 ∨ (mK M a).1 = 5) ∧ inR x (mK M a).2 then rn 65 61 ls (.int (mI M a x.toNatClampNeg) :: r) M else none := r_cnd (by decide +kernel : decode (mB 65) 60 = .ok (.iaload, 1)) rfl rfl
theorem t65_61 : rn 65 61 ls (.int y :: .int x :: r) M = rn 65 62 ls (.int (x ||| y) :: r) M := r_nx (by decide +kernel : decode (mB 65) 61 = .ok (.ior, 1)) rfl rfl
theorem t65_62 : rn 65 62 (a0 :: a1 :: a2 :: a3 :: a4 :: some (.int x) :: l) r M = rn 65 64 (a0 :: a1 :: a2 :: a3 :: a4 :: some (.int x) :: l) (.int x :: r) M := r_iload (by decide +kernel : decode (mB 65) 62 = .ok (.iload 5, 2)) rfl
theorem t65_64 : rn 65 64 ls (.int y :: .int x :: r) M = rn 65 65 ls (.int (x >>> (y &&& 31)) :: r) M := r_nx (by decide +kernel : decode (mB 65) 64 = .ok (.ishr, 1)) rfl rfl
theorem t65_65 : rn 65 65 ls r M = rn 65 66 ls (.int 1 :: r) M := r_nx (by decide +kernel : decode (mB 65) 65 = .ok (.iconst 1, 1)) rfl rfl
theorem t65_66 : rn 65 66 ls (.int y :: .int x :: r) M = rn 65 67 ls (.int (x &&& y) :: r) M := r_nx (by decide +kernel : decode (mB 65) 66 = .ok (.iand, 1)) rfl rfl
theorem t65_67 : rn 65 67 ls (.int x :: r) M = if ¬ x = 0 then rn 65 88 ls r M else rn 65 70 ls r M := r_if (o := 21) (r := r) (c := ¬ x = 0) (by decide +kernel : decode (mB 65) 67 = .ok (.ifCond .ne 21, 3)) rfl (by decide) rfl
theorem t65_70 : rn 65 70 (a0 :: a1 :: some (.ref a) :: l) r M = rn 65 71 (a0 :: a1 :: some (.ref a) :: l) (.ref a :: r) M := r_aload_n (by decide +kernel : decode (mB 65) 70 = .ok (.aload_n 2, 1)) rfl
theorem t65_71 : rn 65 71 (a0 :: a1 :: a2 :: a3 :: a4 :: some (.int x) :: l) r M = rn 65 73 (a0 :: a1 :: a2 :: a3 :: a4 :: some (.int x) :: l) (.int x :: r) M := r_iload (by decide +kernel : decode (mB 65) 71 = .ok (.iload 5, 2)) rfl
theorem t65_73 : rn 65 73 ls (.int x :: .ref a :: r) M = if ((mK M a).1 = 1 ∨ (mK M a).1 = 5) ∧ inR x (mK M a).2 then rn 65 74 ls (.int (mI M a x.toNatClampNeg) :: r) M else none := r_cnd (by decide +kernel : decode (mB 65) 73 = .ok (.iaload, 1)) rfl rfl
theorem t65_74 : rn 65 74 (a0 :: a1 :: a2 :: some (.int x) :: l) r M = rn 65 75 (a0 :: a1 :: a2 :: some (.int x) :: l) (.int x :: r) M := r_iload_n (by decide +kernel : decode (mB 65) 74 = .ok (.iload_n 3, 1)) rfl
theorem t65_75 : rn 65 75 ls r M = rn 65 76 ls (.int (-1) :: r) M := r_nx (by decide +kernel : decode (mB 65) 75 = .ok (.iconst (-1), 1)) rfl rfl
theorem t65_76 : rn 65 76 ls (.int y :: .int x :: r) M = rn 65 77 ls (.int (x ^^^ y) :: r) M := r_nx (by decide +kernel : decode (mB 65) 76 = .ok (.ixor, 1)) rfl rfl
theorem t65_77 : rn 65 77 ls (.int y :: .int x :: r) M = rn 65 78 ls (.int (x &&& y) :: r) M := r_nx (by decide +kernel : decode (mB 65) 77 = .ok (.iand, 1)) rfl rfl
theorem t65_78 : rn 65 78 ls (.int x :: r) M = if ¬ x = 0 then rn 65 88 ls r M else rn 65 81 ls r M := r_if (o := 10) (r := r) (c := ¬ x = 0) (by decide +kernel : decode (mB 65) 78 = .ok (.ifCond .ne 10, 3)) rfl (by decide) rfl
theorem t65_81 : rn 65 81 ls r M = rn 65 82 ls (.int 1 :: r) M := r_nx (by decide +kernel : decode (mB 65) 81 = .ok (.iconst 1, 1)) rfl rfl
theorem t65_82 : rn 65 82 (a0 :: a1 :: a2 :: a3 :: a4 :: some (.int x) :: l) r M = rn 65 84 (a0 :: a1 :: a2 :: a3 :: a4 :: some (.int x) :: l) (.int x :: r) M := r_iload (by decide +kernel : decode (mB 65) 82 = .ok (.iload 5, 2)) rfl
theorem t65_84 : rn 65 84 ls (.int y :: .int x :: r) M = rn 65 85 ls (.int (x <<< (y &&& 31)) :: r) M := r_nx (by decide +kernel : decode (mB 65) 84 = .ok (.ishl, 1)) rfl rfl
theorem t65_85 : rn 65 85 ls r M = rn 65 89 ls r M := r_goto (o := 4) (by decide +kernel : decode (mB 65) 85 = .ok (.goto 4, 3)) (by decide)
theorem t65_88 : rn 65 88 ls r M = rn 65 89 ls (.int 0 :: r) M := r_nx (by decide +kernel : decode (mB 65) 88 = .ok (.iconst 0, 1)) rfl rfl
theorem t65_89 : rn 65 89 ls (.int y :: .int x :: r) M = rn 65 90 ls (.int (x ||| y) :: r) M := r_nx (by decide +kernel : decode (mB 65) 89 = .ok (.ior, 1)) rfl rfl
theorem t65_90 : rn 65 90 (a0 :: a1 :: a2 :: a3 :: a4 :: l) (.int x :: r) M = rn 65 92 (a0 :: a1 :: a2 :: a3 :: some (.int x) :: l) r M := r_istore (by decide +kernel : decode (mB 65) 90 = .ok (.istore 4, 2)) (Nat.le_add_left 5 l.length)
theorem t65_92 : rn 65 92 (a0 :: a1 :: a2 :: a3 :: a4 :: some (.int x) :: l) r M = rn 65 95 (a0 :: a1 :: a2 :: a3 :: a4 :: some (.int (x + 1)) :: l) r M := r_iinc (by decide +kernel : decode (mB 65) 92 = .ok (.iinc 5 1, 3)) rfl
theorem t65_95 : rn 65 95 ls r M = rn 65 47 ls r M := r_goto (o := (-48)) (by decide +kernel : decode (mB 65) 95 = .ok (.goto (-48), 3)) (by decide)
theorem t65_98 : rn 65 98 (a0 :: a1 :: a2 :: a3 :: some (.int x) :: l) r M = rn 65 100 (a0 :: a1 :: a2 :: a3 :: some (.int x) :: l) (.int x :: r) M := r_iload (by decide +kernel : decode (mB 65) 98 = .ok (.iload 4, 2)) rfl
theorem t65_100 : rn 65 100 ls [.int x] M = some (some (.int x), M) := r_ireturn (by decide +kernel : decode (mB 65) 100 = .ok (.ireturn, 1)) rfl
-- 66 DRLaw_round([I[I[I[I)I
theorem t66_0 : rn 66 0 (some (.ref a) :: l) r M = rn 66 1 (some (.ref a) :: l) (.ref a :: r) M := r_aload_n (by decide +kernel : decode (mB 66) 0 = .ok (.aload_n 0, 1)) rfl
theorem t66_1 : rn 66 1 (a0 :: some (.ref a) :: l) r M = rn 66 2 (a0 :: some (.ref a) :: l) (.ref a :: r) M := r_aload_n (by decide +kernel : decode (mB 66) 1 = .ok (.aload_n 1, 1)) rfl
theorem t66_2 : rn 66 2 (a0 :: a1 :: some (.ref a) :: l) r M = rn 66 3 (a0 :: a1 :: some (.ref a) :: l) (.ref a :: r) M := r_aload_n (by decide +kernel : decode (mB 66) 2 = .ok (.aload_n 2, 1)) rfl
theorem t66_3 : rn 66 3 ls [.ref a, .ref b, .ref c] M = cbn (cl 65 [.ref c, .ref b, .ref a] M) 66 6 ls [] := r_callS (kd := 2) (by decide +kernel : decode (mB 66) 3 = .ok (.invokestatic 16, 3)) (by decide +kernel) (by decide +kernel) ((doS_n np_65).trans rfl)
theorem t66_6 : rn 66 6 (a0 :: a1 :: a2 :: a3 :: a4 :: l) (.int x :: r) M = rn 66 8 (a0 :: a1 :: a2 :: a3 :: some (.int x) :: l) r M := r_istore (by decide +kernel : decode (mB 66) 6 = .ok (.istore 4, 2)) (Nat.le_add_left 5 l.length)
theorem t66_8 : rn 66 8 ls r M = rn 66 9 ls (.int 0 :: r) M := r_nx (by decide +kernel : decode (mB 66) 8 = .ok (.iconst 0, 1)) rfl rfl
theorem t66_9 : rn 66 9 (a0 :: a1 :: a2 :: a3 :: a4 :: a5 :: l) (.int x :: r) M = rn 66 11 (a0 :: a1 :: a2 :: a3 :: a4 :: some (.int x) :: l) r M := r_istore (by decide +kernel : decode (mB 66) 9 = .ok (.istore 5, 2)) (Nat.le_add_left 6 l.length)
theorem t66_11 : rn 66 11 (a0 :: a1 :: a2 :: a3 :: a4 :: some (.int x) :: l) r M = rn 66 13 (a0 :: a1 :: a2 :: a3 :: a4 :: some (.int x) :: l) (.int x :: r) M := r_iload (by decide +kernel : decode (mB 66) 11 = .ok (.iload 5, 2)) rfl
theorem t66_13 : rn 66 13 (some (.ref a) :: l) r M = rn 66 14 (some (.ref a) :: l) (.ref a :: r) M := r_aload_n (by decide +kernel : decode (mB 66) 13 = .ok (.aload_n 0, 1)) rfl
theorem t66_14 : rn 66 14 ls r M = rn 66 15 ls (.int 0 :: r) M := r_nx (by decide +kernel : decode (mB 66) 14 = .ok (.iconst 0, 1)) rfl rfl
theorem t66_15 : rn 66 15 ls (.int x :: .ref a :: r) M = if ((mK M a).1 = 1 ∨ (mK M a).1 = 5) ∧ inR x (mK M a).2 then rn 66 16 ls (.int (mI M a x.toNatClampNeg) :: r) M else none := r_cnd (by decide +kernel : decode (mB 66) 15 = .ok (.iaload, 1)) rfl rfl
theorem t66_16 : rn 66 16 ls (.int y :: .int x :: r) M = if y ≤ x then rn 66 64 ls r M else rn 66 19 ls r M := r_if (o := 48) (r := r) (c := y ≤ x) (by decide +kernel : decode (mB 66) 16 = .ok (.if_icmp .ge 48, 3)) rfl (by decide) rfl
theorem t66_19 : rn 66 19 (a0 :: a1 :: a2 :: a3 :: some (.int x) :: l) r M = rn 66 21 (a0 :: a1 :: a2 :: a3 :: some (.int x) :: l) (.int x :: r) M := r_iload (by decide +kernel : decode (mB 66) 19 = .ok (.iload 4, 2)) rfl
theorem t66_21 : rn 66 21 (a0 :: a1 :: a2 :: a3 :: a4 :: some (.int x) :: l) r M = rn 66 23 (a0 :: a1 :: a2 :: a3 :: a4 :: some (.int x) :: l) (.int x :: r) M := r_iload (by decide +kernel : decode (mB 66) 21 = .ok (.iload 5, 2)) rfl
theorem t66_23 : rn 66 23 ls (.int y :: .int x :: r) M = rn 66 24 ls (.int (x >>> (y &&& 31)) :: r) M := r_nx (by decide +kernel : decode (mB 66) 23 = .ok (.ishr, 1)) rfl rfl
theorem t66_24 : rn 66 24 ls r M = rn 66 25 ls (.int 1 :: r) M := r_nx (by decide +kernel : decode (mB 66) 24 = .ok (.iconst 1, 1)) rfl rfl
theorem t66_25 : rn 66 25 ls (.int y :: .int x :: r) M = rn 66 26 ls (.int (x &&& y) :: r) M := r_nx (by decide +kernel : decode (mB 66) 25 = .ok (.iand, 1)) rfl rfl
theorem t66_26 : rn 66 26 ls (.int x :: r) M = if ¬ x = 0 then rn 66 32 ls r M else rn 66 29 ls r M := r_if (o := 6) (r := r) (c := ¬ x = 0) (by decide +kernel : decode (mB 66) 26 = .ok (.ifCond .ne 6, 3)) rfl (by decide) rfl
theorem t66_29 : rn 66 29 ls r M = rn 66 58 ls r M := r_goto (o := 29) (by decide +kernel : decode (mB 66) 29 = .ok (.goto 29, 3)) (by decide)
theorem t66_32 : rn 66 32 (a0 :: some (.ref a) :: l) r M = rn 66 33 (a0 :: some (.ref a) :: l) (.ref a :: r) M := r_aload_n (by decide +kernel : decode (mB 66) 32 = .ok (.aload_n 1, 1)) rfl
theorem t66_33 : rn 66 33 ls r M = rn 66 34 ls (.int 5 :: r) M := r_nx (by decide +kernel : decode (mB 66) 33 = .ok (.iconst 5, 1)) rfl rfl
theorem t66_34 : rn 66 34 (a0 :: a1 :: a2 :: a3 :: a4 :: some (.int x) :: l) r M = rn 66 36 (a0 :: a1 :: a2 :: a3 :: a4 :: some (.int x) :: l) (.int x :: r) M := r_iload (by decide +kernel : decode (mB 66) 34 = .ok (.iload 5, 2)) rfl
theorem t66_36 : rn 66 36 ls (.int y :: .int x :: r) M = rn 66 37 ls (.int (x * y) :: r) M := r_nx (by decide +kernel : decode (mB 66) 36 = .ok (.imul, 1)) rfl rfl
theorem t66_37 : rn 66 37 ls r M = rn 66 38 ls (.int 4 :: r) M := r_nx (by decide +kernel : decode (mB 66) 37 = .ok (.iconst 4, 1)) rfl rfl
theorem t66_38 : rn 66 38 ls (.int y :: .int x :: r) M = rn 66 39 ls (.int (x + y) :: r) M := r_nx (by decide +kernel : decode (mB 66) 38 = .ok (.iadd, 1)) rfl rfl
theorem t66_39 : rn 66 39 (a0 :: a1 :: a2 :: a3 :: a4 :: some (.int x) :: l) r M = rn 66 41 (a0 :: a1 :: a2 :: a3 :: a4 :: some (.int x) :: l) (.int x :: r) M := r_iload (by decide +kernel : decode (mB 66) 39 = .ok (.iload 5, 2)) rfl
theorem t66_41 : rn 66 41 (a0 :: some (.ref a) :: l) r M = rn 66 42 (a0 :: some (.ref a) :: l) (.ref a :: r) M := r_aload_n (by decide +kernel : decode (mB 66) 41 = .ok (.aload_n 1, 1)) rfl
theorem t66_42 : rn 66 42 (a0 :: a1 :: a2 :: some (.ref a) :: l) r M = rn 66 43 (a0 :: a1 :: a2 :: some (.ref a) :: l) (.ref a :: r) M := r_aload_n (by decide +kernel : decode (mB 66) 42 = .ok (.aload_n 3, 1)) rfl
theorem t66_43 : rn 66 43 ls [.ref a, .ref b, .int x, .int y, .ref c] M = cbn (cl 67 [.int x, .ref b, .ref a] M) 66 46 ls [.int y, .ref c] := r_callS (kd := 2) (by decide +kernel : decode (mB 66) 43 = .ok (.invokestatic 20, 3)) (by decide +kernel) (by decide +kernel) ((doS_n np_67).trans rfl)
theorem t66_46 : rn 66 46 ls (.int y :: .int x :: .ref a :: r) M = if (mK M a).1 = 1 ∧ inR x (mK M a).2 then rn 66 47 ls r (sI M a (va_up (mI M a) x.toNatClampNeg y)) else none := r_cnd (by decide +kernel : decode (mB 66) 46 = .ok (.iastore, 1)) rfl rfl
theorem t66_47 : rn 66 47 (a0 :: some (.ref a) :: l) r M = rn 66 48 (a0 :: some (.ref a) :: l) (.ref a :: r) M := r_aload_n (by decide +kernel : decode (mB 66) 47 = .ok (.aload_n 1, 1)) rfl
theorem t66_48 : rn 66 48 ls r M = rn 66 49 ls (.int 5 :: r) M := r_nx (by decide +kernel : decode (mB 66) 48 = .ok (.iconst 5, 1)) rfl rfl
theorem t66_49 : rn 66 49 (a0 :: a1 :: a2 :: a3 :: a4 :: some (.int x) :: l) r M = rn 66 51 (a0 :: a1 :: a2 :: a3 :: a4 :: some (.int x) :: l) (.int x :: r) M := r_iload (by decide +kernel : decode (mB 66) 49 = .ok (.iload 5, 2)) rfl
theorem t66_51 : rn 66 51 ls (.int y :: .int x :: r) M = rn 66 52 ls (.int (x * y) :: r) M := r_nx (by decide +kernel : decode (mB 66) 51 = .ok (.imul, 1)) rfl rfl
theorem t66_52 : rn 66 52 ls r M = rn 66 53 ls (.int 3 :: r) M := r_nx (by decide +kernel : decode (mB 66) 52 = .ok (.iconst 3, 1)) rfl rfl
theorem t66_53 : rn 66 53 ls (.int y :: .int x :: r) M = rn 66 54 ls (.int (x + y) :: r) M := r_nx (by decide +kernel : decode (mB 66) 53 = .ok (.iadd, 1)) rfl rfl
theorem t66_54 : rn 66 54 (some (.ref a) :: l) r M = rn 66 55 (some (.ref a) :: l) (.ref a :: r) M := r_aload_n (by decide +kernel : decode (mB 66) 54 = .ok (.aload_n 0, 1)) rfl
theorem t66_55 : rn 66 55 ls r M = rn 66 56 ls (.int 1 :: r) M := r_nx (by decide +kernel : decode (mB 66) 55 = .ok (.iconst 1, 1)) rfl rfl
theorem t66_56 : rn 66 56 ls (.int x :: .ref a :: r) M = if ((mK M a).1 = 1 ∨ (mK M a).1 = 5) ∧ inR x (mK M a).2 then rn 66 57 ls (.int (mI M a x.toNatClampNeg) :: r) M else none := r_cnd (by decide +kernel : decode (mB 66) 56 = .ok (.iaload, 1)) rfl rfl
theorem t66_57 : rn 66 57 ls (.int y :: .int x :: .ref a :: r) M = if (mK M a).1 = 1 ∧ inR x (mK M a).2 then rn 66 58 ls r (sI M a (va_up (mI M a) x.toNatClampNeg y)) else none := r_cnd (by decide +kernel : decode (mB 66) 57 = .ok (.iastore, 1)) rfl rfl
theorem t66_58 : rn 66 58 (a0 :: a1 :: a2 :: a3 :: a4 :: some (.int x) :: l) r M = rn 66 61 (a0 :: a1 :: a2 :: a3 :: a4 :: some (.int (x + 1)) :: l) r M := r_iinc (by decide +kernel : decode (mB 66) 58 = .ok (.iinc 5 1, 3)) rfl
theorem t66_61 : rn 66 61 ls r M = rn 66 11 ls r M := r_goto (o := (-50)) (by decide +kernel : decode (mB 66) 61 = .ok (.goto (-50), 3)) (by decide)
theorem t66_64 : rn 66 64 (some (.ref a) :: l) r M = rn 66 65 (some (.ref a) :: l) (.ref a :: r) M := r_aload_n (by decide +kernel : decode (mB 66) 64 = .ok (.aload_n 0, 1)) rfl
theorem t66_65 : rn 66 65 ls r M = rn 66 66 ls (.int 1 :: r) M := r_nx (by decide +kernel : decode (mB 66) 65 = .ok (.iconst 1, 1)) rfl rfl
theorem t66_66 : rn 66 66 ls (.int x :: .ref a :: r) M = rn 66 67 ls (.int x :: .ref a :: .int x :: .ref a :: r) M := r_nx (by decide +kernel : decode (mB 66) 66 = .ok (.dup2, 1)) rfl rfl
theorem t66_67 : rn 66 67 ls (.int x :: .ref a :: r) M = if ((mK M a).1 = 1 ∨ (mK M a).1 = 5) ∧ inR x (mK M a).2 then rn 66 68 ls (.int (mI M a x.toNatClampNeg) :: r) M else none := r_cnd (by decide +kernel : decode (mB 66) 67 = .ok (.iaload, 1)) rfl rfl
theorem t66_68 : rn 66 68 ls r M = rn 66 69 ls (.int 1 :: r) M := r_nx (by decide +kernel : decode (mB 66) 68 = .ok (.iconst 1, 1)) rfl rfl
theorem t66_69 : rn 66 69 ls (.int y :: .int x :: r) M = rn 66 70 ls (.int (x + y) :: r) M := r_nx (by decide +kernel : decode (mB 66) 69 = .ok (.iadd, 1)) rfl rfl
theorem t66_70 : rn 66 70 ls (.int y :: .int x :: .ref a :: r) M = if (mK M a).1 = 1 ∧ inR x (mK M a).2 then rn 66 71 ls r (sI M a (va_up (mI M a) x.toNatClampNeg y)) else none := r_cnd (by decide +kernel : decode (mB 66) 70 = .ok (.iastore, 1)) rfl rfl
theorem t66_71 : rn 66 71 (a0 :: a1 :: a2 :: a3 :: some (.int x) :: l) r M = rn 66 73 (a0 :: a1 :: a2 :: a3 :: some (.int x) :: l) (.int x :: r) M := r_iload (by decide +kernel : decode (mB 66) 71 = .ok (.iload 4, 2)) rfl
theorem t66_73 : rn 66 73 ls [.int x] M = cbn (cl 63 [.int x] M) 66 76 ls [] := r_callS (kd := 2) (by decide +kernel : decode (mB 66) 73 = .ok (.invokestatic 24, 3)) (by decide +kernel) (by decide +kernel) ((doS_n np_63).trans rfl)
theorem t66_76 : rn 66 76 ls [.int x] M = some (some (.int x), M) := r_ireturn (by decide +kernel : decode (mB 66) 76 = .ok (.ireturn, 1)) rfl
-- 67 DRLaw_play(I[I[I)I
theorem t67_0 : rn 67 0 (a0 :: some (.ref a) :: l) r M = rn 67 1 (a0 :: some (.ref a) :: l) (.ref a :: r) M := r_aload_n (by decide +kernel : decode (mB 67) 0 = .ok (.aload_n 1, 1)) rfl
theorem t67_1 : rn 67 1 ls r M = rn 67 2 ls (.int 5 :: r) M := r_nx (by decide +kernel : decode (mB 67) 1 = .ok (.iconst 5, 1)) rfl rfl
theorem t67_2 : rn 67 2 (some (.int x) :: l) r M = rn 67 3 (some (.int x) :: l) (.int x :: r) M := r_iload_n (by decide +kernel : decode (mB 67) 2 = .ok (.iload_n 0, 1)) rfl
theorem t67_3 : rn 67 3 ls (.int y :: .int x :: r) M = rn 67 4 ls (.int (x * y) :: r) M := r_nx (by decide +kernel : decode (mB 67) 3 = .ok (.imul, 1)) rfl rfl
theorem t67_4 : rn 67 4 ls (.int x :: .ref a :: r) M = if ((mK M a).1 = 1 ∨ (mK M a).1 = 5) ∧ inR x (mK M a).2 then rn 67 5 ls (.int (mI M a x.toNatClampNeg) :: r) M else none := r_cnd (by decide +kernel : decode (mB 67) 4 = .ok (.iaload, 1)) rfl rfl
theorem t67_5 : rn 67 5 (a0 :: a1 :: a2 :: a3 :: l) (.int x :: r) M = rn 67 6 (a0 :: a1 :: a2 :: some (.int x) :: l) r M := r_istore_n (by decide +kernel : decode (mB 67) 5 = .ok (.istore_n 3, 1)) (Nat.le_add_left 4 l.length)
theorem t67_6 : rn 67 6 (a0 :: some (.ref a) :: l) r M = rn 67 7 (a0 :: some (.ref a) :: l) (.ref a :: r) M := r_aload_n (by decide +kernel : decode (mB 67) 6 = .ok (.aload_n 1, 1)) rfl
theorem t67_7 : rn 67 7 ls r M = rn 67 8 ls (.int 5 :: r) M := r_nx (by decide +kernel : decode (mB 67) 7 = .ok (.iconst 5, 1)) rfl rfl
theorem t67_8 : rn 67 8 (some (.int x) :: l) r M = rn 67 9 (some (.int x) :: l) (.int x :: r) M := r_iload_n (by decide +kernel : decode (mB 67) 8 = .ok (.iload_n 0, 1)) rfl
theorem t67_9 : rn 67 9 ls (.int y :: .int x :: r) M = rn 67 10 ls (.int (x * y) :: r) M := r_nx (by decide +kernel : decode (mB 67) 9 = .ok (.imul, 1)) rfl rfl
theorem t67_10 : rn 67 10 ls r M = rn 67 11 ls (.int 1 :: r) M := r_nx (by decide +kernel : decode (mB 67) 10 = .ok (.iconst 1, 1)) rfl rfl
theorem t67_11 : rn 67 11 ls (.int y :: .int x :: r) M = rn 67 12 ls (.int (x + y) :: r) M := r_nx (by decide +kernel : decode (mB 67) 11 = .ok (.iadd, 1)) rfl rfl
theorem t67_12 : rn 67 12 ls (.int x :: .ref a :: r) M = if ((mK M a).1 = 1 ∨ (mK M a).1 = 5) ∧ inR x (mK M a).2 then rn 67 13 ls (.int (mI M a x.toNatClampNeg) :: r) M else none := r_cnd (by decide +kernel : decode (mB 67) 12 = .ok (.iaload, 1)) rfl rfl
theorem t67_13 : rn 67 13 (a0 :: a1 :: a2 :: a3 :: a4 :: l) (.int x :: r) M = rn 67 15 (a0 :: a1 :: a2 :: a3 :: some (.int x) :: l) r M := r_istore (by decide +kernel : decode (mB 67) 13 = .ok (.istore 4, 2)) (Nat.le_add_left 5 l.length)
theorem t67_15 : rn 67 15 (a0 :: some (.ref a) :: l) r M = rn 67 16 (a0 :: some (.ref a) :: l) (.ref a :: r) M := r_aload_n (by decide +kernel : decode (mB 67) 15 = .ok (.aload_n 1, 1)) rfl
theorem t67_16 : rn 67 16 ls r M = rn 67 17 ls (.int 5 :: r) M := r_nx (by decide +kernel : decode (mB 67) 16 = .ok (.iconst 5, 1)) rfl rfl
theorem t67_17 : rn 67 17 (some (.int x) :: l) r M = rn 67 18 (some (.int x) :: l) (.int x :: r) M := r_iload_n (by decide +kernel : decode (mB 67) 17 = .ok (.iload_n 0, 1)) rfl
theorem t67_18 : rn 67 18 ls (.int y :: .int x :: r) M = rn 67 19 ls (.int (x * y) :: r) M := r_nx (by decide +kernel : decode (mB 67) 18 = .ok (.imul, 1)) rfl rfl
theorem t67_19 : rn 67 19 ls r M = rn 67 20 ls (.int 2 :: r) M := r_nx (by decide +kernel : decode (mB 67) 19 = .ok (.iconst 2, 1)) rfl rfl
theorem t67_20 : rn 67 20 ls (.int y :: .int x :: r) M = rn 67 21 ls (.int (x + y) :: r) M := r_nx (by decide +kernel : decode (mB 67) 20 = .ok (.iadd, 1)) rfl rfl
theorem t67_21 : rn 67 21 ls (.int x :: .ref a :: r) M = if ((mK M a).1 = 1 ∨ (mK M a).1 = 5) ∧ inR x (mK M a).2 then rn 67 22 ls (.int (mI M a x.toNatClampNeg) :: r) M else none := r_cnd (by decide +kernel : decode (mB 67) 21 = .ok (.iaload, 1)) rfl rfl
theorem t67_22 : rn 67 22 (a0 :: a1 :: a2 :: a3 :: a4 :: a5 :: l) (.int x :: r) M = rn 67 24 (a0 :: a1 :: a2 :: a3 :: a4 :: some (.int x) :: l) r M := r_istore (by decide +kernel : decode (mB 67) 22 = .ok (.istore 5, 2)) (Nat.le_add_left 6 l.length)
theorem t67_24 : rn 67 24 (a0 :: a1 :: some (.ref a) :: l) r M = rn 67 25 (a0 :: a1 :: some (.ref a) :: l) (.ref a :: r) M := r_aload_n (by decide +kernel : decode (mB 67) 24 = .ok (.aload_n 2, 1)) rfl
theorem t67_25 : rn 67 25 ls r M = rn 67 26 ls (.int 2 :: r) M := r_nx (by decide +kernel : decode (mB 67) 25 = .ok (.iconst 2, 1)) rfl rfl
theorem t67_26 : rn 67 26 (a0 :: a1 :: a2 :: a3 :: some (.int x) :: l) r M = rn 67 28 (a0 :: a1 :: a2 :: a3 :: some (.int x) :: l) (.int x :: r) M := r_iload (by decide +kernel : decode (mB 67) 26 = .ok (.iload 4, 2)) rfl
theorem t67_28 : rn 67 28 ls (.int y :: .int x :: r) M = rn 67 29 ls (.int (x * y) :: r) M := r_nx (by decide +kernel : decode (mB 67) 28 = .ok (.imul, 1)) rfl rfl
theorem t67_29 : rn 67 29 ls (.int x :: .ref a :: r) M = if ((mK M a).1 = 1 ∨ (mK M a).1 = 5) ∧ inR x (mK M a).2 then rn 67 30 ls (.int (mI M a x.toNatClampNeg) :: r) M else none := r_cnd (by decide +kernel : decode (mB 67) 29 = .ok (.iaload, 1)) rfl rfl
theorem t67_30 : rn 67 30 ls r M = rn 67 32 ls (.int (-9) :: r) M := r_nx (by decide +kernel : decode (mB 67) 30 = .ok (.bipush (-9), 2)) rfl rfl
theorem t67_32 : rn 67 32 ls (.int y :: .int x :: r) M = if x = y then rn 67 39 ls r M else rn 67 35 ls r M := r_if (o := 7) (r := r) (c := x = y) (by decide +kernel : decode (mB 67) 32 = .ok (.if_icmp .eq 7, 3)) rfl (by decide) rfl
theorem t67_35 : rn 67 35 ls r M = rn 67 36 ls (.int 1 :: r) M := r_nx (by decide +kernel : decode (mB 67) 35 = .ok (.iconst 1, 1)) rfl rfl
theorem t67_36 : rn 67 36 ls r M = rn 67 40 ls r M := r_goto (o := 4) (by decide +kernel : decode (mB 67) 36 = .ok (.goto 4, 3)) (by decide)
theorem t67_39 : rn 67 39 ls r M = rn 67 40 ls (.int 0 :: r) M := r_nx (by decide +kernel : decode (mB 67) 39 = .ok (.iconst 0, 1)) rfl rfl
theorem t67_40 : rn 67 40 (a0 :: a1 :: a2 :: a3 :: a4 :: a5 :: a6 :: l) (.int x :: r) M = rn 67 42 (a0 :: a1 :: a2 :: a3 :: a4 :: a5 :: some (.int x) :: l) r M := r_istore (by decide +kernel : decode (mB 67) 40 = .ok (.istore 6, 2)) (Nat.le_add_left 7 l.length)
theorem t67_42 : rn 67 42 (a0 :: a1 :: a2 :: some (.int x) :: l) r M = rn 67 43 (a0 :: a1 :: a2 :: some (.int x) :: l) (.int x :: r) M := r_iload_n (by decide +kernel : decode (mB 67) 42 = .ok (.iload_n 3, 1)) rfl
theorem t67_43 : rn 67 43 ls (.int x :: r) M = if ¬ x = 0 then rn 67 50 ls r M else rn 67 46 ls r M := r_if (o := 7) (r := r) (c := ¬ x = 0) (by decide +kernel : decode (mB 67) 43 = .ok (.ifCond .ne 7, 3)) rfl (by decide) rfl
theorem t67_46 : rn 67 46 ls r M = rn 67 47 ls (.int 1 :: r) M := r_nx (by decide +kernel : decode (mB 67) 46 = .ok (.iconst 1, 1)) rfl rfl
theorem t67_47 : rn 67 47 ls r M = rn 67 51 ls r M := r_goto (o := 4) (by decide +kernel : decode (mB 67) 47 = .ok (.goto 4, 3)) (by decide)
theorem t67_50 : rn 67 50 ls r M = rn 67 51 ls (.int 0 :: r) M := r_nx (by decide +kernel : decode (mB 67) 50 = .ok (.iconst 0, 1)) rfl rfl
theorem t67_51 : rn 67 51 (a0 :: a1 :: a2 :: a3 :: a4 :: a5 :: some (.int x) :: l) r M = rn 67 53 (a0 :: a1 :: a2 :: a3 :: a4 :: a5 :: some (.int x) :: l) (.int x :: r) M := r_iload (by decide +kernel : decode (mB 67) 51 = .ok (.iload 6, 2)) rfl
theorem t67_53 : rn 67 53 ls (.int y :: .int x :: r) M = if ¬ x = y then rn 67 66 ls r M else rn 67 56 ls r M := r_if (o := 13) (r := r) (c := ¬ x = y) (by decide +kernel : decode (mB 67) 53 = .ok (.if_icmp .ne 13, 3)) rfl (by decide) rfl
theorem t67_56 : rn 67 56 (a0 :: a1 :: a2 :: some (.int x) :: l) r M = rn 67 57 (a0 :: a1 :: a2 :: some (.int x) :: l) (.int x :: r) M := r_iload_n (by decide +kernel : decode (mB 67) 56 = .ok (.iload_n 3, 1)) rfl
theorem t67_57 : rn 67 57 ls (.int x :: r) M = if ¬ x = 0 then rn 67 64 ls r M else rn 67 60 ls r M := r_if (o := 7) (r := r) (c := ¬ x = 0) (by decide +kernel : decode (mB 67) 57 = .ok (.ifCond .ne 7, 3)) rfl (by decide) rfl
theorem t67_60 : rn 67 60 ls r M = rn 67 61 ls (.int 1 :: r) M := r_nx (by decide +kernel : decode (mB 67) 60 = .ok (.iconst 1, 1)) rfl rfl
theorem t67_61 : rn 67 61 ls r M = rn 67 65 ls r M := r_goto (o := 4) (by decide +kernel : decode (mB 67) 61 = .ok (.goto 4, 3)) (by decide)
theorem t67_64 : rn 67 64 ls r M = rn 67 65 ls (.int 2 :: r) M := r_nx (by decide +kernel : decode (mB 67) 64 = .ok (.iconst 2, 1)) rfl rfl
theorem t67_65 : rn 67 65 ls [.int x] M = some (some (.int x), M) := r_ireturn (by decide +kernel : decode (mB 67) 65 = .ok (.ireturn, 1)) rfl
theorem t67_66 : rn 67 66 (a0 :: a1 :: a2 :: some (.int x) :: l) r M = rn 67 67 (a0 :: a1 :: a2 :: some (.int x) :: l) (.int x :: r) M := r_iload_n (by decide +kernel : decode (mB 67) 66 = .ok (.iload_n 3, 1)) rfl
theorem t67_67 : rn 67 67 ls r M = rn 67 68 ls (.int 2 :: r) M := r_nx (by decide +kernel : decode (mB 67) 67 = .ok (.iconst 2, 1)) rfl rfl
theorem t67_68 (hy : ¬ y = 0) : rn 67 68 ls (.int y :: .int x :: r) M = rn 67 69 ls (.int (x - x / y * y) :: r) M := r_nx (by decide +kernel : decode (mB 67) 68 = .ok (.irem, 1)) rfl (by show Option.map _ (if y = 0 then none else nx _ _ _ _) = _; rw [if_neg hy]; rfl)
theorem t67_69 : rn 67 69 ls (.int x :: r) M = if ¬ x = 0 then rn 67 85 ls r M else rn 67 72 ls r M := r_if (o := 16) (r := r) (c := ¬ x = 0) (by decide +kernel : decode (mB 67) 69 = .ok (.ifCond .ne 16, 3)) rfl (by decide) rfl
theorem t67_72 : rn 67 72 (a0 :: a1 :: some (.ref a) :: l) r M = rn 67 73 (a0 :: a1 :: some (.ref a) :: l) (.ref a :: r) M := r_aload_n (by decide +kernel : decode (mB 67) 72 = .ok (.aload_n 2, 1)) rfl
theorem t67_73 : rn 67 73 ls r M = rn 67 74 ls (.int 2 :: r) M := r_nx (by decide +kernel : decode (mB 67) 73 = .ok (.iconst 2, 1)) rfl rfl
theorem t67_74 : rn 67 74 (a0 :: a1 :: a2 :: a3 :: a4 :: some (.int x) :: l) r M = rn 67 76 (a0 :: a1 :: a2 :: a3 :: a4 :: some (.int x) :: l) (.int x :: r) M := r_iload (by decide +kernel : decode (mB 67) 74 = .ok (.iload 5, 2)) rfl
theorem t67_76 : rn 67 76 ls (.int y :: .int x :: r) M = rn 67 77 ls (.int (x * y) :: r) M := r_nx (by decide +kernel : decode (mB 67) 76 = .ok (.imul, 1)) rfl rfl
theorem t67_77 : rn 67 77 ls (.int x :: .ref a :: r) M = if ((mK M a).1 = 1 ∨ (mK M a).1 = 5) ∧ inR x (mK M a).2 then rn 67 78 ls (.int (mI M a x.toNatClampNeg) :: r) M else none := r_cnd (by decide +kernel : decode (mB 67) 77 = .ok (.iaload, 1)) rfl rfl
theorem t67_78 : rn 67 78 ls r M = rn 67 80 ls (.int (-9) :: r) M := r_nx (by decide +kernel : decode (mB 67) 78 = .ok (.bipush (-9), 2)) rfl rfl
theorem t67_80 : rn 67 80 ls (.int y :: .int x :: r) M = if ¬ x = y then rn 67 85 ls r M else rn 67 83 ls r M := r_if (o := 5) (r := r) (c := ¬ x = y) (by decide +kernel : decode (mB 67) 80 = .ok (.if_icmp .ne 5, 3)) rfl (by decide) rfl
theorem t67_83 : rn 67 83 ls r M = rn 67 84 ls (.int 3 :: r) M := r_nx (by decide +kernel : decode (mB 67) 83 = .ok (.iconst 3, 1)) rfl rfl
theorem t67_84 : rn 67 84 ls [.int x] M = some (some (.int x), M) := r_ireturn (by decide +kernel : decode (mB 67) 84 = .ok (.ireturn, 1)) rfl
theorem t67_85 : rn 67 85 (a0 :: a1 :: a2 :: some (.int x) :: l) r M = rn 67 86 (a0 :: a1 :: a2 :: some (.int x) :: l) (.int x :: r) M := r_iload_n (by decide +kernel : decode (mB 67) 85 = .ok (.iload_n 3, 1)) rfl
theorem t67_86 : rn 67 86 ls r M = rn 67 87 ls (.int 2 :: r) M := r_nx (by decide +kernel : decode (mB 67) 86 = .ok (.iconst 2, 1)) rfl rfl
theorem t67_87 : rn 67 87 ls (.int y :: .int x :: r) M = if ¬ x = y then rn 67 119 ls r M else rn 67 90 ls r M := r_if (o := 32) (r := r) (c := ¬ x = y) (by decide +kernel : decode (mB 67) 87 = .ok (.if_icmp .ne 32, 3)) rfl (by decide) rfl
theorem t67_90 : rn 67 90 (a0 :: a1 :: a2 :: a3 :: a4 :: some (.int x) :: l) r M = rn 67 92 (a0 :: a1 :: a2 :: a3 :: a4 :: some (.int x) :: l) (.int x :: r) M := r_iload (by decide +kernel : decode (mB 67) 90 = .ok (.iload 5, 2)) rfl
theorem t67_92 : rn 67 92 (a0 :: a1 :: a2 :: a3 :: a4 :: a5 :: a6 :: a7 :: l) (.int x :: r) M = rn 67 94 (a0 :: a1 :: a2 :: a3 :: a4 :: a5 :: a6 :: some (.int x) :: l) r M := r_istore (by decide +kernel : decode (mB 67) 92 = .ok (.istore 7, 2)) (Nat.le_add_left 8 l.length)
theorem t67_94 : rn 67 94 (a0 :: a1 :: a2 :: a3 :: a4 :: a5 :: a6 :: some (.int x) :: l) r M = rn 67 96 (a0 :: a1 :: a2 :: a3 :: a4 :: a5 :: a6 :: some (.int x) :: l) (.int x :: r) M := r_iload (by decide +kernel : decode (mB 67) 94 = .ok (.iload 7, 2)) rfl
theorem t67_96 : rn 67 96 ls (.int x :: r) M = if x < 0 then rn 67 119 ls r M else rn 67 99 ls r M := r_if (o := 23) (r := r) (c := x < 0) (by decide +kernel : decode (mB 67) 96 = .ok (.ifCond .lt 23, 3)) rfl (by decide) rfl
theorem t67_99 : rn 67 99 (a0 :: a1 :: a2 :: a3 :: a4 :: a5 :: a6 :: some (.int x) :: l) r M = rn 67 101 (a0 :: a1 :: a2 :: a3 :: a4 :: a5 :: a6 :: some (.int x) :: l) (.int x :: r) M := r_iload (by decide +kernel : decode (mB 67) 99 = .ok (.iload 7, 2)) rfl
theorem t67_101 : rn 67 101 (a0 :: a1 :: a2 :: a3 :: some (.int x) :: l) r M = rn 67 103 (a0 :: a1 :: a2 :: a3 :: some (.int x) :: l) (.int x :: r) M := r_iload (by decide +kernel : decode (mB 67) 101 = .ok (.iload 4, 2)) rfl
theorem t67_103 : rn 67 103 ls (.int y :: .int x :: r) M = if ¬ x = y then rn 67 108 ls r M else rn 67 106 ls r M := r_if (o := 5) (r := r) (c := ¬ x = y) (by decide +kernel : decode (mB 67) 103 = .ok (.if_icmp .ne 5, 3)) rfl (by decide) rfl
theorem t67_106 : rn 67 106 ls r M = rn 67 107 ls (.int 4 :: r) M := r_nx (by decide +kernel : decode (mB 67) 106 = .ok (.iconst 4, 1)) rfl rfl
theorem t67_107 : rn 67 107 ls [.int x] M = some (some (.int x), M) := r_ireturn (by decide +kernel : decode (mB 67) 107 = .ok (.ireturn, 1)) rfl
theorem t67_108 : rn 67 108 (a0 :: a1 :: some (.ref a) :: l) r M = rn 67 109 (a0 :: a1 :: some (.ref a) :: l) (.ref a :: r) M := r_aload_n (by decide +kernel : decode (mB 67) 108 = .ok (.aload_n 2, 1)) rfl
theorem t67_109 : rn 67 109 ls r M = rn 67 110 ls (.int 2 :: r) M := r_nx (by decide +kernel : decode (mB 67) 109 = .ok (.iconst 2, 1)) rfl rfl
theorem t67_110 : rn 67 110 (a0 :: a1 :: a2 :: a3 :: a4 :: a5 :: a6 :: some (.int x) :: l) r M = rn 67 112 (a0 :: a1 :: a2 :: a3 :: a4 :: a5 :: a6 :: some (.int x) :: l) (.int x :: r) M := r_iload (by decide +kernel : decode (mB 67) 110 = .ok (.iload 7, 2)) rfl
theorem t67_112 : rn 67 112 ls (.int y :: .int x :: r) M = rn 67 113 ls (.int (x * y) :: r) M := r_nx (by decide +kernel : decode (mB 67) 112 = .ok (.imul, 1)) rfl rfl
theorem t67_113 : rn 67 113 ls (.int x :: .ref a :: r) M = if ((mK M a).1 = 1 ∨ (mK M a).1 = 5) ∧ inR x (mK M a).2 then rn 67 114 ls (.int (mI M a x.toNatClampNeg) :: r) M else none := r_cnd (by decide +kernel : decode (mB 67) 113 = .ok (.iaload, 1)) rfl rfl
theorem t67_114 : rn 67 114 (a0 :: a1 :: a2 :: a3 :: a4 :: a5 :: a6 :: a7 :: l) (.int x :: r) M = rn 67 116 (a0 :: a1 :: a2 :: a3 :: a4 :: a5 :: a6 :: some (.int x) :: l) r M := r_istore (by decide +kernel : decode (mB 67) 114 = .ok (.istore 7, 2)) (Nat.le_add_left 8 l.length)
theorem t67_116 : rn 67 116 ls r M = rn 67 94 ls r M := r_goto (o := (-22)) (by decide +kernel : decode (mB 67) 116 = .ok (.goto (-22), 3)) (by decide)
theorem t67_119 : rn 67 119 (a0 :: a1 :: a2 :: some (.int x) :: l) r M = rn 67 120 (a0 :: a1 :: a2 :: some (.int x) :: l) (.int x :: r) M := r_iload_n (by decide +kernel : decode (mB 67) 119 = .ok (.iload_n 3, 1)) rfl
theorem t67_120 : rn 67 120 ls r M = rn 67 121 ls (.int 3 :: r) M := r_nx (by decide +kernel : decode (mB 67) 120 = .ok (.iconst 3, 1)) rfl rfl
theorem t67_121 : rn 67 121 ls (.int y :: .int x :: r) M = if ¬ x = y then rn 67 153 ls r M else rn 67 124 ls r M := r_if (o := 32) (r := r) (c := ¬ x = y) (by decide +kernel : decode (mB 67) 121 = .ok (.if_icmp .ne 32, 3)) rfl (by decide) rfl
theorem t67_124 : rn 67 124 ls r M = rn 67 125 ls (.int 1 :: r) M := r_nx (by decide +kernel : decode (mB 67) 124 = .ok (.iconst 1, 1)) rfl rfl
theorem t67_125 : rn 67 125 (a0 :: a1 :: a2 :: a3 :: a4 :: a5 :: a6 :: a7 :: l) (.int x :: r) M = rn 67 127 (a0 :: a1 :: a2 :: a3 :: a4 :: a5 :: a6 :: some (.int x) :: l) r M := r_istore (by decide +kernel : decode (mB 67) 125 = .ok (.istore 7, 2)) (Nat.le_add_left 8 l.length)
theorem t67_127 : rn 67 127 (a0 :: a1 :: a2 :: a3 :: a4 :: a5 :: a6 :: some (.int x) :: l) r M = rn 67 129 (a0 :: a1 :: a2 :: a3 :: a4 :: a5 :: a6 :: some (.int x) :: l) (.int x :: r) M := r_iload (by decide +kernel : decode (mB 67) 127 = .ok (.iload 7, 2)) rfl
theorem t67_129 : rn 67 129 ls r M = rn 67 131 ls (.int 6 :: r) M := r_nx (by decide +kernel : decode (mB 67) 129 = .ok (.bipush 6, 2)) rfl rfl
theorem t67_131 : rn 67 131 ls (.int y :: .int x :: r) M = if y ≤ x then rn 67 153 ls r M else rn 67 134 ls r M := r_if (o := 22) (r := r) (c := y ≤ x) (by decide +kernel : decode (mB 67) 131 = .ok (.if_icmp .ge 22, 3)) rfl (by decide) rfl
theorem t67_134 : rn 67 134 (a0 :: a1 :: some (.ref a) :: l) r M = rn 67 135 (a0 :: a1 :: some (.ref a) :: l) (.ref a :: r) M := r_aload_n (by decide +kernel : decode (mB 67) 134 = .ok (.aload_n 2, 1)) rfl
theorem t67_135 : rn 67 135 ls r M = rn 67 136 ls (.int 2 :: r) M := r_nx (by decide +kernel : decode (mB 67) 135 = .ok (.iconst 2, 1)) rfl rfl
theorem t67_136 : rn 67 136 (a0 :: a1 :: a2 :: a3 :: a4 :: a5 :: a6 :: some (.int x) :: l) r M = rn 67 138 (a0 :: a1 :: a2 :: a3 :: a4 :: a5 :: a6 :: some (.int x) :: l) (.int x :: r) M := r_iload (by decide +kernel : decode (mB 67) 136 = .ok (.iload 7, 2)) rfl
theorem t67_138 : rn 67 138 ls (.int y :: .int x :: r) M = rn 67 139 ls (.int (x * y) :: r) M := r_nx (by decide +kernel : decode (mB 67) 138 = .ok (.imul, 1)) rfl rfl
theorem t67_139 : rn 67 139 ls (.int x :: .ref a :: r) M = if ((mK M a).1 = 1 ∨ (mK M a).1 = 5) ∧ inR x (mK M a).2 then rn 67 140 ls (.int (mI M a x.toNatClampNeg) :: r) M else none := r_cnd (by decide +kernel : decode (mB 67) 139 = .ok (.iaload, 1)) rfl rfl
theorem t67_140 : rn 67 140 (a0 :: a1 :: a2 :: a3 :: some (.int x) :: l) r M = rn 67 142 (a0 :: a1 :: a2 :: a3 :: some (.int x) :: l) (.int x :: r) M := r_iload (by decide +kernel : decode (mB 67) 140 = .ok (.iload 4, 2)) rfl
theorem t67_142 : rn 67 142 ls (.int y :: .int x :: r) M = if ¬ x = y then rn 67 147 ls r M else rn 67 145 ls r M := r_if (o := 5) (r := r) (c := ¬ x = y) (by decide +kernel : decode (mB 67) 142 = .ok (.if_icmp .ne 5, 3)) rfl (by decide) rfl
theorem t67_145 : rn 67 145 ls r M = rn 67 146 ls (.int 5 :: r) M := r_nx (by decide +kernel : decode (mB 67) 145 = .ok (.iconst 5, 1)) rfl rfl
theorem t67_146 : rn 67 146 ls [.int x] M = some (some (.int x), M) := r_ireturn (by decide +kernel : decode (mB 67) 146 = .ok (.ireturn, 1)) rfl
theorem t67_147 : rn 67 147 (a0 :: a1 :: a2 :: a3 :: a4 :: a5 :: a6 :: some (.int x) :: l) r M = rn 67 150 (a0 :: a1 :: a2 :: a3 :: a4 :: a5 :: a6 :: some (.int (x + 1)) :: l) r M := r_iinc (by decide +kernel : decode (mB 67) 147 = .ok (.iinc 7 1, 3)) rfl
theorem t67_150 : rn 67 150 ls r M = rn 67 127 ls r M := r_goto (o := (-23)) (by decide +kernel : decode (mB 67) 150 = .ok (.goto (-23), 3)) (by decide)
theorem t67_153 : rn 67 153 (a0 :: a1 :: a2 :: some (.int x) :: l) r M = rn 67 154 (a0 :: a1 :: a2 :: some (.int x) :: l) (.int x :: r) M := r_iload_n (by decide +kernel : decode (mB 67) 153 = .ok (.iload_n 3, 1)) rfl
theorem t67_154 : rn 67 154 ls (.int x :: r) M = if ¬ x = 0 then rn 67 166 ls r M else rn 67 157 ls r M := r_if (o := 12) (r := r) (c := ¬ x = 0) (by decide +kernel : decode (mB 67) 154 = .ok (.ifCond .ne 12, 3)) rfl (by decide) rfl
theorem t67_157 : rn 67 157 (a0 :: a1 :: some (.ref a) :: l) r M = rn 67 158 (a0 :: a1 :: some (.ref a) :: l) (.ref a :: r) M := r_aload_n (by decide +kernel : decode (mB 67) 157 = .ok (.aload_n 2, 1)) rfl
theorem t67_158 : rn 67 158 ls r M = rn 67 159 ls (.int 2 :: r) M := r_nx (by decide +kernel : decode (mB 67) 158 = .ok (.iconst 2, 1)) rfl rfl
theorem t67_159 : rn 67 159 (a0 :: a1 :: a2 :: a3 :: some (.int x) :: l) r M = rn 67 161 (a0 :: a1 :: a2 :: a3 :: some (.int x) :: l) (.int x :: r) M := r_iload (by decide +kernel : decode (mB 67) 159 = .ok (.iload 4, 2)) rfl
theorem t67_161 : rn 67 161 ls (.int y :: .int x :: r) M = rn 67 162 ls (.int (x * y) :: r) M := r_nx (by decide +kernel : decode (mB 67) 161 = .ok (.imul, 1)) rfl rfl
theorem t67_162 : rn 67 162 ls r M = rn 67 163 ls (.int 1 :: r) M := r_nx (by decide +kernel : decode (mB 67) 162 = .ok (.iconst 1, 1)) rfl rfl
theorem t67_163 : rn 67 163 ls (.int y :: .int x :: r) M = rn 67 164 ls (.int (x + y) :: r) M := r_nx (by decide +kernel : decode (mB 67) 163 = .ok (.iadd, 1)) rfl rfl
theorem t67_164 : rn 67 164 ls r M = rn 67 165 ls (.int 0 :: r) M := r_nx (by decide +kernel : decode (mB 67) 164 = .ok (.iconst 0, 1)) rfl rfl
theorem t67_165 : rn 67 165 ls (.int y :: .int x :: .ref a :: r) M = if (mK M a).1 = 1 ∧ inR x (mK M a).2 then rn 67 166 ls r (sI M a (va_up (mI M a) x.toNatClampNeg y)) else none := r_cnd (by decide +kernel : decode (mB 67) 165 = .ok (.iastore, 1)) rfl rfl
theorem t67_166 : rn 67 166 (a0 :: a1 :: a2 :: some (.int x) :: l) r M = rn 67 167 (a0 :: a1 :: a2 :: some (.int x) :: l) (.int x :: r) M := r_iload_n (by decide +kernel : decode (mB 67) 166 = .ok (.iload_n 3, 1)) rfl
theorem t67_167 : rn 67 167 ls r M = rn 67 168 ls (.int 1 :: r) M := r_nx (by decide +kernel : decode (mB 67) 167 = .ok (.iconst 1, 1)) rfl rfl
theorem t67_168 : rn 67 168 ls (.int y :: .int x :: r) M = if ¬ x = y then rn 67 181 ls r M else rn 67 171 ls r M := r_if (o := 13) (r := r) (c := ¬ x = y) (by decide +kernel : decode (mB 67) 168 = .ok (.if_icmp .ne 13, 3)) rfl (by decide) rfl
theorem t67_171 : rn 67 171 (a0 :: a1 :: some (.ref a) :: l) r M = rn 67 172 (a0 :: a1 :: some (.ref a) :: l) (.ref a :: r) M := r_aload_n (by decide +kernel : decode (mB 67) 171 = .ok (.aload_n 2, 1)) rfl
theorem t67_172 : rn 67 172 ls r M = rn 67 173 ls (.int 2 :: r) M := r_nx (by decide +kernel : decode (mB 67) 172 = .ok (.iconst 2, 1)) rfl rfl
theorem t67_173 : rn 67 173 (a0 :: a1 :: a2 :: a3 :: some (.int x) :: l) r M = rn 67 175 (a0 :: a1 :: a2 :: a3 :: some (.int x) :: l) (.int x :: r) M := r_iload (by decide +kernel : decode (mB 67) 173 = .ok (.iload 4, 2)) rfl
theorem t67_175 : rn 67 175 ls (.int y :: .int x :: r) M = rn 67 176 ls (.int (x * y) :: r) M := r_nx (by decide +kernel : decode (mB 67) 175 = .ok (.imul, 1)) rfl rfl
theorem t67_176 : rn 67 176 ls r M = rn 67 177 ls (.int 1 :: r) M := r_nx (by decide +kernel : decode (mB 67) 176 = .ok (.iconst 1, 1)) rfl rfl
theorem t67_177 : rn 67 177 ls (.int y :: .int x :: r) M = rn 67 178 ls (.int (x + y) :: r) M := r_nx (by decide +kernel : decode (mB 67) 177 = .ok (.iadd, 1)) rfl rfl
theorem t67_178 : rn 67 178 (a0 :: a1 :: a2 :: a3 :: a4 :: some (.int x) :: l) r M = rn 67 180 (a0 :: a1 :: a2 :: a3 :: a4 :: some (.int x) :: l) (.int x :: r) M := r_iload (by decide +kernel : decode (mB 67) 178 = .ok (.iload 5, 2)) rfl
theorem t67_180 : rn 67 180 ls (.int y :: .int x :: .ref a :: r) M = if (mK M a).1 = 1 ∧ inR x (mK M a).2 then rn 67 181 ls r (sI M a (va_up (mI M a) x.toNatClampNeg y)) else none := r_cnd (by decide +kernel : decode (mB 67) 180 = .ok (.iastore, 1)) rfl rfl
theorem t67_181 : rn 67 181 (a0 :: a1 :: a2 :: some (.int x) :: l) r M = rn 67 182 (a0 :: a1 :: a2 :: some (.int x) :: l) (.int x :: r) M := r_iload_n (by decide +kernel : decode (mB 67) 181 = .ok (.iload_n 3, 1)) rfl
theorem t67_182 : rn 67 182 ls r M = rn 67 183 ls (.int 2 :: r) M := r_nx (by decide +kernel : decode (mB 67) 182 = .ok (.iconst 2, 1)) rfl rfl
theorem t67_183 (hy : ¬ y = 0) : rn 67 183 ls (.int y :: .int x :: r) M = rn 67 184 ls (.int (x - x / y * y) :: r) M := r_nx (by decide +kernel : decode (mB 67) 183 = .ok (.irem, 1)) rfl (by show Option.map _ (if y = 0 then none else nx _ _ _ _) = _; rw [if_neg hy]; rfl)
theorem t67_184 : rn 67 184 ls (.int x :: r) M = if ¬ x = 0 then rn 67 195 ls r M else rn 67 187 ls r M := r_if (o := 11) (r := r) (c := ¬ x = 0) (by decide +kernel : decode (mB 67) 184 = .ok (.ifCond .ne 11, 3)) rfl (by decide) rfl
theorem t67_187 : rn 67 187 (a0 :: a1 :: some (.ref a) :: l) r M = rn 67 188 (a0 :: a1 :: some (.ref a) :: l) (.ref a :: r) M := r_aload_n (by decide +kernel : decode (mB 67) 187 = .ok (.aload_n 2, 1)) rfl
theorem t67_188 : rn 67 188 ls r M = rn 67 189 ls (.int 2 :: r) M := r_nx (by decide +kernel : decode (mB 67) 188 = .ok (.iconst 2, 1)) rfl rfl
theorem t67_189 : rn 67 189 (a0 :: a1 :: a2 :: a3 :: some (.int x) :: l) r M = rn 67 191 (a0 :: a1 :: a2 :: a3 :: some (.int x) :: l) (.int x :: r) M := r_iload (by decide +kernel : decode (mB 67) 189 = .ok (.iload 4, 2)) rfl
theorem t67_191 : rn 67 191 ls (.int y :: .int x :: r) M = rn 67 192 ls (.int (x * y) :: r) M := r_nx (by decide +kernel : decode (mB 67) 191 = .ok (.imul, 1)) rfl rfl
theorem t67_192 : rn 67 192 (a0 :: a1 :: a2 :: a3 :: a4 :: some (.int x) :: l) r M = rn 67 194 (a0 :: a1 :: a2 :: a3 :: a4 :: some (.int x) :: l) (.int x :: r) M := r_iload (by decide +kernel : decode (mB 67) 192 = .ok (.iload 5, 2)) rfl
theorem t67_194 : rn 67 194 ls (.int y :: .int x :: .ref a :: r) M = if (mK M a).1 = 1 ∧ inR x (mK M a).2 then rn 67 195 ls r (sI M a (va_up (mI M a) x.toNatClampNeg y)) else none := r_cnd (by decide +kernel : decode (mB 67) 194 = .ok (.iastore, 1)) rfl rfl
theorem t67_195 : rn 67 195 (a0 :: a1 :: a2 :: some (.int x) :: l) r M = rn 67 196 (a0 :: a1 :: a2 :: some (.int x) :: l) (.int x :: r) M := r_iload_n (by decide +kernel : decode (mB 67) 195 = .ok (.iload_n 3, 1)) rfl
theorem t67_196 : rn 67 196 ls r M = rn 67 197 ls (.int 3 :: r) M := r_nx (by decide +kernel : decode (mB 67) 196 = .ok (.iconst 3, 1)) rfl rfl
theorem t67_197 : rn 67 197 ls (.int y :: .int x :: r) M = if ¬ x = y then rn 67 218 ls r M else rn 67 200 ls r M := r_if (o := 21) (r := r) (c := ¬ x = y) (by decide +kernel : decode (mB 67) 197 = .ok (.if_icmp .ne 21, 3)) rfl (by decide) rfl
theorem t67_200 : rn 67 200 (a0 :: a1 :: some (.ref a) :: l) r M = rn 67 201 (a0 :: a1 :: some (.ref a) :: l) (.ref a :: r) M := r_aload_n (by decide +kernel : decode (mB 67) 200 = .ok (.aload_n 2, 1)) rfl
theorem t67_201 : rn 67 201 ls r M = rn 67 202 ls (.int 2 :: r) M := r_nx (by decide +kernel : decode (mB 67) 201 = .ok (.iconst 2, 1)) rfl rfl
theorem t67_202 : rn 67 202 (a0 :: a1 :: a2 :: a3 :: some (.int x) :: l) r M = rn 67 204 (a0 :: a1 :: a2 :: a3 :: some (.int x) :: l) (.int x :: r) M := r_iload (by decide +kernel : decode (mB 67) 202 = .ok (.iload 4, 2)) rfl
theorem t67_204 : rn 67 204 ls (.int y :: .int x :: r) M = rn 67 205 ls (.int (x * y) :: r) M := r_nx (by decide +kernel : decode (mB 67) 204 = .ok (.imul, 1)) rfl rfl
theorem t67_205 : rn 67 205 ls r M = rn 67 207 ls (.int (-9) :: r) M := r_nx (by decide +kernel : decode (mB 67) 205 = .ok (.bipush (-9), 2)) rfl rfl
theorem t67_207 : rn 67 207 ls (.int y :: .int x :: .ref a :: r) M = if (mK M a).1 = 1 ∧ inR x (mK M a).2 then rn 67 208 ls r (sI M a (va_up (mI M a) x.toNatClampNeg y)) else none := r_cnd (by decide +kernel : decode (mB 67) 207 = .ok (.iastore, 1)) rfl rfl
theorem t67_208 : rn 67 208 (a0 :: a1 :: some (.ref a) :: l) r M = rn 67 209 (a0 :: a1 :: some (.ref a) :: l) (.ref a :: r) M := r_aload_n (by decide +kernel : decode (mB 67) 208 = .ok (.aload_n 2, 1)) rfl
theorem t67_209 : rn 67 209 ls r M = rn 67 210 ls (.int 2 :: r) M := r_nx (by decide +kernel : decode (mB 67) 209 = .ok (.iconst 2, 1)) rfl rfl
theorem t67_210 : rn 67 210 (a0 :: a1 :: a2 :: a3 :: some (.int x) :: l) r M = rn 67 212 (a0 :: a1 :: a2 :: a3 :: some (.int x) :: l) (.int x :: r) M := r_iload (by decide +kernel : decode (mB 67) 210 = .ok (.iload 4, 2)) rfl
theorem t67_212 : rn 67 212 ls (.int y :: .int x :: r) M = rn 67 213 ls (.int (x * y) :: r) M := r_nx (by decide +kernel : decode (mB 67) 212 = .ok (.imul, 1)) rfl rfl
theorem t67_213 : rn 67 213 ls r M = rn 67 214 ls (.int 1 :: r) M := r_nx (by decide +kernel : decode (mB 67) 213 = .ok (.iconst 1, 1)) rfl rfl
theorem t67_214 : rn 67 214 ls (.int y :: .int x :: r) M = rn 67 215 ls (.int (x + y) :: r) M := r_nx (by decide +kernel : decode (mB 67) 214 = .ok (.iadd, 1)) rfl rfl
theorem t67_215 : rn 67 215 ls r M = rn 67 217 ls (.int (-9) :: r) M := r_nx (by decide +kernel : decode (mB 67) 215 = .ok (.bipush (-9), 2)) rfl rfl
theorem t67_217 : rn 67 217 ls (.int y :: .int x :: .ref a :: r) M = if (mK M a).1 = 1 ∧ inR x (mK M a).2 then rn 67 218 ls r (sI M a (va_up (mI M a) x.toNatClampNeg y)) else none := r_cnd (by decide +kernel : decode (mB 67) 217 = .ok (.iastore, 1)) rfl rfl
theorem t67_218 : rn 67 218 ls r M = rn 67 219 ls (.int 0 :: r) M := r_nx (by decide +kernel : decode (mB 67) 218 = .ok (.iconst 0, 1)) rfl rfl
theorem t67_219 : rn 67 219 ls [.int x] M = some (some (.int x), M) := r_ireturn (by decide +kernel : decode (mB 67) 219 = .ok (.ireturn, 1)) rfl
-- 68 DRLaw_anew([I[I[I)V
theorem t68_0 : rn 68 0 ls r M = rn 68 1 ls (.int 0 :: r) M := r_nx (by decide +kernel : decode (mB 68) 0 = .ok (.iconst 0, 1)) rfl rfl
theorem t68_1 : rn 68 1 (a0 :: a1 :: a2 :: a3 :: l) (.int x :: r) M = rn 68 2 (a0 :: a1 :: a2 :: some (.int x) :: l) r M := r_istore_n (by decide +kernel : decode (mB 68) 1 = .ok (.istore_n 3, 1)) (Nat.le_add_left 4 l.length)
theorem t68_2 : rn 68 2 (a0 :: a1 :: a2 :: some (.int x) :: l) r M = rn 68 3 (a0 :: a1 :: a2 :: some (.int x) :: l) (.int x :: r) M := r_iload_n (by decide +kernel : decode (mB 68) 2 = .ok (.iload_n 3, 1)) rfl
theorem t68_3 : rn 68 3 (some (.ref a) :: l) r M = rn 68 4 (some (.ref a) :: l) (.ref a :: r) M := r_aload_n (by decide +kernel : decode (mB 68) 3 = .ok (.aload_n 0, 1)) rfl
theorem t68_4 : rn 68 4 ls r M = rn 68 5 ls (.int 0 :: r) M := r_nx (by decide +kernel : decode (mB 68) 4 = .ok (.iconst 0, 1)) rfl rfl
theorem t68_5 : rn 68 5 ls (.int x :: .ref a :: r) M = if ((mK M a).1 = 1 ∨ (mK M a).1 = 5) ∧ inR x (mK M a).2 then rn 68 6 ls (.int (mI M a x.toNatClampNeg) :: r) M else none := r_cnd (by decide +kernel : decode (mB 68) 5 = .ok (.iaload, 1)) rfl rfl
theorem t68_6 : rn 68 6 ls (.int y :: .int x :: r) M = if y ≤ x then rn 68 33 ls r M else rn 68 9 ls r M := r_if (o := 27) (r := r) (c := y ≤ x) (by decide +kernel : decode (mB 68) 6 = .ok (.if_icmp .ge 27, 3)) rfl (by decide) rfl
theorem t68_9 : rn 68 9 (a0 :: some (.ref a) :: l) r M = rn 68 10 (a0 :: some (.ref a) :: l) (.ref a :: r) M := r_aload_n (by decide +kernel : decode (mB 68) 9 = .ok (.aload_n 1, 1)) rfl
theorem t68_10 : rn 68 10 ls r M = rn 68 11 ls (.int 5 :: r) M := r_nx (by decide +kernel : decode (mB 68) 10 = .ok (.iconst 5, 1)) rfl rfl
theorem t68_11 : rn 68 11 (a0 :: a1 :: a2 :: some (.int x) :: l) r M = rn 68 12 (a0 :: a1 :: a2 :: some (.int x) :: l) (.int x :: r) M := r_iload_n (by decide +kernel : decode (mB 68) 11 = .ok (.iload_n 3, 1)) rfl
theorem t68_12 : rn 68 12 ls (.int y :: .int x :: r) M = rn 68 13 ls (.int (x * y) :: r) M := r_nx (by decide +kernel : decode (mB 68) 12 = .ok (.imul, 1)) rfl rfl
theorem t68_13 : rn 68 13 ls r M = rn 68 14 ls (.int 3 :: r) M := r_nx (by decide +kernel : decode (mB 68) 13 = .ok (.iconst 3, 1)) rfl rfl
theorem t68_14 : rn 68 14 ls (.int y :: .int x :: r) M = rn 68 15 ls (.int (x + y) :: r) M := r_nx (by decide +kernel : decode (mB 68) 14 = .ok (.iadd, 1)) rfl rfl
theorem t68_15 : rn 68 15 ls r M = rn 68 17 ls (.int (-6) :: r) M := r_nx (by decide +kernel : decode (mB 68) 15 = .ok (.bipush (-6), 2)) rfl rfl
theorem t68_17 : rn 68 17 ls (.int y :: .int x :: .ref a :: r) M = if (mK M a).1 = 1 ∧ inR x (mK M a).2 then rn 68 18 ls r (sI M a (va_up (mI M a) x.toNatClampNeg y)) else none := r_cnd (by decide +kernel : decode (mB 68) 17 = .ok (.iastore, 1)) rfl rfl
theorem t68_18 : rn 68 18 (a0 :: some (.ref a) :: l) r M = rn 68 19 (a0 :: some (.ref a) :: l) (.ref a :: r) M := r_aload_n (by decide +kernel : decode (mB 68) 18 = .ok (.aload_n 1, 1)) rfl
theorem t68_19 : rn 68 19 ls r M = rn 68 20 ls (.int 5 :: r) M := r_nx (by decide +kernel : decode (mB 68) 19 = .ok (.iconst 5, 1)) rfl rfl
theorem t68_20 : rn 68 20 (a0 :: a1 :: a2 :: some (.int x) :: l) r M = rn 68 21 (a0 :: a1 :: a2 :: some (.int x) :: l) (.int x :: r) M := r_iload_n (by decide +kernel : decode (mB 68) 20 = .ok (.iload_n 3, 1)) rfl
theorem t68_21 : rn 68 21 ls (.int y :: .int x :: r) M = rn 68 22 ls (.int (x * y) :: r) M := r_nx (by decide +kernel : decode (mB 68) 21 = .ok (.imul, 1)) rfl rfl
theorem t68_22 : rn 68 22 ls r M = rn 68 23 ls (.int 4 :: r) M := r_nx (by decide +kernel : decode (mB 68) 22 = .ok (.iconst 4, 1)) rfl rfl
theorem t68_23 : rn 68 23 ls (.int y :: .int x :: r) M = rn 68 24 ls (.int (x + y) :: r) M := r_nx (by decide +kernel : decode (mB 68) 23 = .ok (.iadd, 1)) rfl rfl
theorem t68_24 : rn 68 24 ls r M = rn 68 26 ls (.int (-6) :: r) M := r_nx (by decide +kernel : decode (mB 68) 24 = .ok (.bipush (-6), 2)) rfl rfl
theorem t68_26 : rn 68 26 ls (.int y :: .int x :: .ref a :: r) M = if (mK M a).1 = 1 ∧ inR x (mK M a).2 then rn 68 27 ls r (sI M a (va_up (mI M a) x.toNatClampNeg y)) else none := r_cnd (by decide +kernel : decode (mB 68) 26 = .ok (.iastore, 1)) rfl rfl
theorem t68_27 : rn 68 27 (a0 :: a1 :: a2 :: some (.int x) :: l) r M = rn 68 30 (a0 :: a1 :: a2 :: some (.int (x + 1)) :: l) r M := r_iinc (by decide +kernel : decode (mB 68) 27 = .ok (.iinc 3 1, 3)) rfl
theorem t68_30 : rn 68 30 ls r M = rn 68 2 ls r M := r_goto (o := (-28)) (by decide +kernel : decode (mB 68) 30 = .ok (.goto (-28), 3)) (by decide)
theorem t68_33 : rn 68 33 (some (.ref a) :: l) r M = rn 68 34 (some (.ref a) :: l) (.ref a :: r) M := r_aload_n (by decide +kernel : decode (mB 68) 33 = .ok (.aload_n 0, 1)) rfl
theorem t68_34 : rn 68 34 ls r M = rn 68 35 ls (.int 1 :: r) M := r_nx (by decide +kernel : decode (mB 68) 34 = .ok (.iconst 1, 1)) rfl rfl
theorem t68_35 : rn 68 35 ls r M = rn 68 36 ls (.int 0 :: r) M := r_nx (by decide +kernel : decode (mB 68) 35 = .ok (.iconst 0, 1)) rfl rfl
theorem t68_36 : rn 68 36 ls (.int y :: .int x :: .ref a :: r) M = if (mK M a).1 = 1 ∧ inR x (mK M a).2 then rn 68 37 ls r (sI M a (va_up (mI M a) x.toNatClampNeg y)) else none := r_cnd (by decide +kernel : decode (mB 68) 36 = .ok (.iastore, 1)) rfl rfl
theorem t68_37 : rn 68 37 (a0 :: a1 :: some (.ref a) :: l) r M = rn 68 38 (a0 :: a1 :: some (.ref a) :: l) (.ref a :: r) M := r_aload_n (by decide +kernel : decode (mB 68) 37 = .ok (.aload_n 2, 1)) rfl
theorem t68_38 : rn 68 38 ls [.ref a] M = cbn (cl 64 [.ref a] M) 68 41 ls [] := r_callS (kd := 2) (by decide +kernel : decode (mB 68) 38 = .ok (.invokestatic 28, 3)) (by decide +kernel) (by decide +kernel) ((doS_n np_64).trans rfl)
theorem t68_41 : rn 68 41 ls [] M = some (none, M) := r_vreturn (by decide +kernel : decode (mB 68) 41 = .ok (.return_, 1)) rfl
-- 75 DRLaw_depth(I[I)I
theorem t75_0 : rn 75 0 ls r M = rn 75 1 ls (.int 0 :: r) M := r_nx (by decide +kernel : decode (mB 75) 0 = .ok (.iconst 0, 1)) rfl rfl
theorem t75_1 : rn 75 1 (a0 :: a1 :: a2 :: l) (.int x :: r) M = rn 75 2 (a0 :: a1 :: some (.int x) :: l) r M := r_istore_n (by decide +kernel : decode (mB 75) 1 = .ok (.istore_n 2, 1)) (Nat.le_add_left 3 l.length)
theorem t75_2 : rn 75 2 (some (.int x) :: l) r M = rn 75 3 (some (.int x) :: l) (.int x :: r) M := r_iload_n (by decide +kernel : decode (mB 75) 2 = .ok (.iload_n 0, 1)) rfl
theorem t75_3 : rn 75 3 (a0 :: some (.ref a) :: l) r M = rn 75 4 (a0 :: some (.ref a) :: l) (.ref a :: r) M := r_aload_n (by decide +kernel : decode (mB 75) 3 = .ok (.aload_n 1, 1)) rfl
theorem t75_4 : rn 75 4 ls [.ref a, .int x] M = cbn (cl 62 [.int x, .ref a] M) 75 7 ls [] := r_callS (kd := 2) (by decide +kernel : decode (mB 75) 4 = .ok (.invokestatic 10, 3)) (by decide +kernel) (by decide +kernel) ((doS_n np_62).trans rfl)
theorem t75_7 : rn 75 7 ls r M = rn 75 8 ls (.int 1 :: r) M := r_nx (by decide +kernel : decode (mB 75) 7 = .ok (.iconst 1, 1)) rfl rfl
theorem t75_8 : rn 75 8 (some (.int x) :: l) r M = rn 75 9 (some (.int x) :: l) (.int x :: r) M := r_iload_n (by decide +kernel : decode (mB 75) 8 = .ok (.iload_n 0, 1)) rfl
theorem t75_9 : rn 75 9 ls (.int y :: .int x :: r) M = rn 75 10 ls (.int (x <<< (y &&& 31)) :: r) M := r_nx (by decide +kernel : decode (mB 75) 9 = .ok (.ishl, 1)) rfl rfl
theorem t75_10 : rn 75 10 ls (.int y :: .int x :: r) M = rn 75 11 ls (.int (x ||| y) :: r) M := r_nx (by decide +kernel : decode (mB 75) 10 = .ok (.ior, 1)) rfl rfl
theorem t75_11 : rn 75 11 (a0 :: a1 :: a2 :: a3 :: l) (.int x :: r) M = rn 75 12 (a0 :: a1 :: a2 :: some (.int x) :: l) r M := r_istore_n (by decide +kernel : decode (mB 75) 11 = .ok (.istore_n 3, 1)) (Nat.le_add_left 4 l.length)
theorem t75_12 : rn 75 12 (a0 :: a1 :: a2 :: some (.int x) :: l) r M = rn 75 13 (a0 :: a1 :: a2 :: some (.int x) :: l) (.int x :: r) M := r_iload_n (by decide +kernel : decode (mB 75) 12 = .ok (.iload_n 3, 1)) rfl
theorem t75_13 : rn 75 13 ls (.int x :: r) M = if x = 0 then rn 75 28 ls r M else rn 75 16 ls r M := r_if (o := 15) (r := r) (c := x = 0) (by decide +kernel : decode (mB 75) 13 = .ok (.ifCond .eq 15, 3)) rfl (by decide) rfl
theorem t75_16 : rn 75 16 (a0 :: a1 :: some (.int x) :: l) r M = rn 75 19 (a0 :: a1 :: some (.int (x + 1)) :: l) r M := r_iinc (by decide +kernel : decode (mB 75) 16 = .ok (.iinc 2 1, 3)) rfl
theorem t75_19 : rn 75 19 (a0 :: a1 :: a2 :: some (.int x) :: l) r M = rn 75 20 (a0 :: a1 :: a2 :: some (.int x) :: l) (.int x :: r) M := r_iload_n (by decide +kernel : decode (mB 75) 19 = .ok (.iload_n 3, 1)) rfl
theorem t75_20 : rn 75 20 (a0 :: some (.ref a) :: l) r M = rn 75 21 (a0 :: some (.ref a) :: l) (.ref a :: r) M := r_aload_n (by decide +kernel : decode (mB 75) 20 = .ok (.aload_n 1, 1)) rfl
theorem t75_21 : rn 75 21 ls [.ref a, .int x] M = cbn (cl 76 [.int x, .ref a] M) 75 24 ls [] := r_callS (kd := 2) (by decide +kernel : decode (mB 75) 21 = .ok (.invokestatic 32, 3)) (by decide +kernel) (by decide +kernel) ((doS_n np_76).trans rfl)
theorem t75_24 : rn 75 24 (a0 :: a1 :: a2 :: a3 :: l) (.int x :: r) M = rn 75 25 (a0 :: a1 :: a2 :: some (.int x) :: l) r M := r_istore_n (by decide +kernel : decode (mB 75) 24 = .ok (.istore_n 3, 1)) (Nat.le_add_left 4 l.length)
theorem t75_25 : rn 75 25 ls r M = rn 75 12 ls r M := r_goto (o := (-13)) (by decide +kernel : decode (mB 75) 25 = .ok (.goto (-13), 3)) (by decide)
theorem t75_28 : rn 75 28 (a0 :: a1 :: some (.int x) :: l) r M = rn 75 29 (a0 :: a1 :: some (.int x) :: l) (.int x :: r) M := r_iload_n (by decide +kernel : decode (mB 75) 28 = .ok (.iload_n 2, 1)) rfl
theorem t75_29 : rn 75 29 ls r M = rn 75 30 ls (.int 1 :: r) M := r_nx (by decide +kernel : decode (mB 75) 29 = .ok (.iconst 1, 1)) rfl rfl
theorem t75_30 : rn 75 30 ls (.int y :: .int x :: r) M = rn 75 31 ls (.int (x - y) :: r) M := r_nx (by decide +kernel : decode (mB 75) 30 = .ok (.isub, 1)) rfl rfl
theorem t75_31 : rn 75 31 ls [.int x] M = some (some (.int x), M) := r_ireturn (by decide +kernel : decode (mB 75) 31 = .ok (.ireturn, 1)) rfl
-- 76 DRLaw_beyond(I[I)I
theorem t76_0 : rn 76 0 ls r M = rn 76 1 ls (.int 0 :: r) M := r_nx (by decide +kernel : decode (mB 76) 0 = .ok (.iconst 0, 1)) rfl rfl
theorem t76_1 : rn 76 1 (a0 :: a1 :: a2 :: l) (.int x :: r) M = rn 76 2 (a0 :: a1 :: some (.int x) :: l) r M := r_istore_n (by decide +kernel : decode (mB 76) 1 = .ok (.istore_n 2, 1)) (Nat.le_add_left 3 l.length)
theorem t76_2 : rn 76 2 ls r M = rn 76 3 ls (.int 0 :: r) M := r_nx (by decide +kernel : decode (mB 76) 2 = .ok (.iconst 0, 1)) rfl rfl
theorem t76_3 : rn 76 3 (a0 :: a1 :: a2 :: a3 :: l) (.int x :: r) M = rn 76 4 (a0 :: a1 :: a2 :: some (.int x) :: l) r M := r_istore_n (by decide +kernel : decode (mB 76) 3 = .ok (.istore_n 3, 1)) (Nat.le_add_left 4 l.length)
theorem t76_4 : rn 76 4 (a0 :: a1 :: a2 :: some (.int x) :: l) r M = rn 76 5 (a0 :: a1 :: a2 :: some (.int x) :: l) (.int x :: r) M := r_iload_n (by decide +kernel : decode (mB 76) 4 = .ok (.iload_n 3, 1)) rfl
theorem t76_5 : rn 76 5 ls r M = rn 76 7 ls (.int 12 :: r) M := r_nx (by decide +kernel : decode (mB 76) 5 = .ok (.bipush 12, 2)) rfl rfl
theorem t76_7 : rn 76 7 ls (.int y :: .int x :: r) M = if y ≤ x then rn 76 37 ls r M else rn 76 10 ls r M := r_if (o := 30) (r := r) (c := y ≤ x) (by decide +kernel : decode (mB 76) 7 = .ok (.if_icmp .ge 30, 3)) rfl (by decide) rfl
theorem t76_10 : rn 76 10 (a0 :: a1 :: some (.int x) :: l) r M = rn 76 11 (a0 :: a1 :: some (.int x) :: l) (.int x :: r) M := r_iload_n (by decide +kernel : decode (mB 76) 10 = .ok (.iload_n 2, 1)) rfl
theorem t76_11 : rn 76 11 (some (.int x) :: l) r M = rn 76 12 (some (.int x) :: l) (.int x :: r) M := r_iload_n (by decide +kernel : decode (mB 76) 11 = .ok (.iload_n 0, 1)) rfl
theorem t76_12 : rn 76 12 (a0 :: a1 :: a2 :: some (.int x) :: l) r M = rn 76 13 (a0 :: a1 :: a2 :: some (.int x) :: l) (.int x :: r) M := r_iload_n (by decide +kernel : decode (mB 76) 12 = .ok (.iload_n 3, 1)) rfl
theorem t76_13 : rn 76 13 ls (.int y :: .int x :: r) M = rn 76 14 ls (.int (x >>> (y &&& 31)) :: r) M := r_nx (by decide +kernel : decode (mB 76) 13 = .ok (.ishr, 1)) rfl rfl
theorem t76_14 : rn 76 14 ls r M = rn 76 15 ls (.int 1 :: r) M := r_nx (by decide +kernel : decode (mB 76) 14 = .ok (.iconst 1, 1)) rfl rfl
theorem t76_15 : rn 76 15 ls (.int y :: .int x :: r) M = rn 76 16 ls (.int (x &&& y) :: r) M := r_nx (by decide +kernel : decode (mB 76) 15 = .ok (.iand, 1)) rfl rfl
theorem t76_16 : rn 76 16 ls r M = rn 76 17 ls (.int 1 :: r) M := r_nx (by decide +kernel : decode (mB 76) 16 = .ok (.iconst 1, 1)) rfl rfl
theorem t76_17 : rn 76 17 ls (.int y :: .int x :: r) M = if ¬ x = y then rn 76 28 ls r M else rn 76 20 ls r M := r_if (o := 11) (r := r) (c := ¬ x = y) (by decide +kernel : decode (mB 76) 17 = .ok (.if_icmp .ne 11, 3)) rfl (by decide) rfl
theorem t76_20 : rn 76 20 (a0 :: some (.ref a) :: l) r M = rn 76 21 (a0 :: some (.ref a) :: l) (.ref a :: r) M := r_aload_n (by decide +kernel : decode (mB 76) 20 = .ok (.aload_n 1, 1)) rfl
theorem t76_21 : rn 76 21 (a0 :: a1 :: a2 :: some (.int x) :: l) r M = rn 76 22 (a0 :: a1 :: a2 :: some (.int x) :: l) (.int x :: r) M := r_iload_n (by decide +kernel : decode (mB 76) 21 = .ok (.iload_n 3, 1)) rfl
theorem t76_22 : rn 76 22 ls (.int x :: .ref a :: r) M = if ((mK M a).1 = 1 ∨ (mK M a).1 = 5) ∧ inR x (mK M a).2 then rn 76 23 ls (.int (mI M a x.toNatClampNeg) :: r) M else none := r_cnd (by decide +kernel : decode (mB 76) 22 = .ok (.iaload, 1)) rfl rfl
theorem t76_23 : rn 76 23 (some (.int x) :: l) r M = rn 76 24 (some (.int x) :: l) (.int x :: r) M := r_iload_n (by decide +kernel : decode (mB 76) 23 = .ok (.iload_n 0, 1)) rfl
theorem t76_24 : rn 76 24 ls (.int y :: .int x :: r) M = rn 76 25 ls (.int (x &&& y) :: r) M := r_nx (by decide +kernel : decode (mB 76) 24 = .ok (.iand, 1)) rfl rfl
theorem t76_25 : rn 76 25 ls r M = rn 76 29 ls r M := r_goto (o := 4) (by decide +kernel : decode (mB 76) 25 = .ok (.goto 4, 3)) (by decide)
theorem t76_28 : rn 76 28 ls r M = rn 76 29 ls (.int 0 :: r) M := r_nx (by decide +kernel : decode (mB 76) 28 = .ok (.iconst 0, 1)) rfl rfl
theorem t76_29 : rn 76 29 ls (.int y :: .int x :: r) M = rn 76 30 ls (.int (x ||| y) :: r) M := r_nx (by decide +kernel : decode (mB 76) 29 = .ok (.ior, 1)) rfl rfl
theorem t76_30 : rn 76 30 (a0 :: a1 :: a2 :: l) (.int x :: r) M = rn 76 31 (a0 :: a1 :: some (.int x) :: l) r M := r_istore_n (by decide +kernel : decode (mB 76) 30 = .ok (.istore_n 2, 1)) (Nat.le_add_left 3 l.length)
theorem t76_31 : rn 76 31 (a0 :: a1 :: a2 :: some (.int x) :: l) r M = rn 76 34 (a0 :: a1 :: a2 :: some (.int (x + 1)) :: l) r M := r_iinc (by decide +kernel : decode (mB 76) 31 = .ok (.iinc 3 1, 3)) rfl
theorem t76_34 : rn 76 34 ls r M = rn 76 4 ls r M := r_goto (o := (-30)) (by decide +kernel : decode (mB 76) 34 = .ok (.goto (-30), 3)) (by decide)
theorem t76_37 : rn 76 37 (a0 :: a1 :: some (.int x) :: l) r M = rn 76 38 (a0 :: a1 :: some (.int x) :: l) (.int x :: r) M := r_iload_n (by decide +kernel : decode (mB 76) 37 = .ok (.iload_n 2, 1)) rfl
theorem t76_38 : rn 76 38 ls [.int x] M = some (some (.int x), M) := r_ireturn (by decide +kernel : decode (mB 76) 38 = .ok (.ireturn, 1)) rfl
end S3
