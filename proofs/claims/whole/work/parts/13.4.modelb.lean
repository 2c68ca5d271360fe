/-! step rows, by program (wip/whole/gen13.py): modelb -/
section S4
variable {a0 a1 a2 a3 a4 a5 a6 a7 a8 a9 : Option Value} {l ls : List (Option Value)} {r : List Value} {M : SM} {x y z w p k : Int32} {u v s : Int64} {a b c d : Nat}

-- 138 DRModel_plays(I)I
theorem t138_0 : rn 138 0 (some (.ref a) :: l) r M = rn 138 1 (some (.ref a) :: l) (.ref a :: r) M := r_aload_n (by decide +kernel : decode (mB 138) 0 = .ok (.aload_n 0, 1)) rfl
theorem t138_1 : rn 138 1 (a0 :: some (.int x) :: l) r M = rn 138 2 (a0 :: some (.int x) :: l) (.int x :: r) M := r_iload_n (by decide +kernel : decode (mB 138) 1 = .ok (.iload_n 1, 1)) rfl
theorem t138_2 : rn 138 2 ls [.int x, .ref a] M = if mK M a = (19, 0) then cbn (cl 139 [.ref a, .int x] M) 138 5 ls [] else none := r_callV (kd := 0) (by decide +kernel : decode (mB 138) 2 = .ok (.invokevirtual 103, 3)) (by decide +kernel) ((doV_n np_139).trans rfl)
theorem t138_5 : rn 138 5 (a0 :: a1 :: a2 :: l) (.int x :: r) M = rn 138 6 (a0 :: a1 :: some (.int x) :: l) r M := r_istore_n (by decide +kernel : decode (mB 138) 5 = .ok (.istore_n 2, 1)) (Nat.le_add_left 3 l.length)
theorem t138_6 : rn 138 6 (some (.ref a) :: l) r M = rn 138 7 (some (.ref a) :: l) (.ref a :: r) M := r_aload_n (by decide +kernel : decode (mB 138) 6 = .ok (.aload_n 0, 1)) rfl
theorem t138_7 : rn 138 7 (a0 :: some (.int x) :: l) r M = rn 138 8 (a0 :: some (.int x) :: l) (.int x :: r) M := r_iload_n (by decide +kernel : decode (mB 138) 7 = .ok (.iload_n 1, 1)) rfl
theorem t138_8 : rn 138 8 ls r M = rn 138 9 ls (.int 1 :: r) M := r_nx (by decide +kernel : decode (mB 138) 8 = .ok (.iconst 1, 1)) rfl rfl
theorem t138_9 : rn 138 9 ls [.int x, .int y, .ref a] M = if mK M a = (19, 0) then cbn (cl 111 [.ref a, .int y, .int x] M) 138 12 ls [] else none := r_callV (kd := 0) (by decide +kernel : decode (mB 138) 9 = .ok (.invokevirtual 53, 3)) (by decide +kernel) ((doV_n np_111).trans rfl)
theorem t138_12 : rn 138 12 (a0 :: a1 :: a2 :: a3 :: l) (.int x :: r) M = rn 138 13 (a0 :: a1 :: a2 :: some (.int x) :: l) r M := r_istore_n (by decide +kernel : decode (mB 138) 12 = .ok (.istore_n 3, 1)) (Nat.le_add_left 4 l.length)
theorem t138_13 : rn 138 13 (some (.ref a) :: l) r M = rn 138 14 (some (.ref a) :: l) (.ref a :: r) M := r_aload_n (by decide +kernel : decode (mB 138) 13 = .ok (.aload_n 0, 1)) rfl
theorem t138_14 : rn 138 14 (a0 :: some (.int x) :: l) r M = rn 138 15 (a0 :: some (.int x) :: l) (.int x :: r) M := r_iload_n (by decide +kernel : decode (mB 138) 14 = .ok (.iload_n 1, 1)) rfl
theorem t138_15 : rn 138 15 ls r M = rn 138 16 ls (.int 2 :: r) M := r_nx (by decide +kernel : decode (mB 138) 15 = .ok (.iconst 2, 1)) rfl rfl
theorem t138_16 : rn 138 16 ls [.int x, .int y, .ref a] M = if mK M a = (19, 0) then cbn (cl 111 [.ref a, .int y, .int x] M) 138 19 ls [] else none := r_callV (kd := 0) (by decide +kernel : decode (mB 138) 16 = .ok (.invokevirtual 53, 3)) (by decide +kernel) ((doV_n np_111).trans rfl)
theorem t138_19 : rn 138 19 (a0 :: a1 :: a2 :: a3 :: a4 :: l) (.int x :: r) M = rn 138 21 (a0 :: a1 :: a2 :: a3 :: some (.int x) :: l) r M := r_istore (by decide +kernel : decode (mB 138) 19 = .ok (.istore 4, 2)) (Nat.le_add_left 5 l.length)
theorem t138_21 : rn 138 21 (a0 :: a1 :: some (.int x) :: l) r M = rn 138 22 (a0 :: a1 :: some (.int x) :: l) (.int x :: r) M := r_iload_n (by decide +kernel : decode (mB 138) 21 = .ok (.iload_n 2, 1)) rfl
theorem t138_22 : rn 138 22 ls (.int x :: r) M = if ¬ x = 0 then rn 138 112 ls r M else rn 138 25 ls r M := r_if (o := 90) (r := r) (c := ¬ x = 0) (by decide +kernel : decode (mB 138) 22 = .ok (.ifCond .ne 90, 3)) rfl (by decide) rfl
theorem t138_25 : rn 138 25 (some (.ref a) :: l) r M = rn 138 26 (some (.ref a) :: l) (.ref a :: r) M := r_aload_n (by decide +kernel : decode (mB 138) 25 = .ok (.aload_n 0, 1)) rfl
theorem t138_26 : rn 138 26 (a0 :: some (.int x) :: l) r M = rn 138 27 (a0 :: some (.int x) :: l) (.int x :: r) M := r_iload_n (by decide +kernel : decode (mB 138) 26 = .ok (.iload_n 1, 1)) rfl
theorem t138_27 : rn 138 27 ls r M = rn 138 28 ls (.int 0 :: r) M := r_nx (by decide +kernel : decode (mB 138) 27 = .ok (.iconst 0, 1)) rfl rfl
theorem t138_28 : rn 138 28 ls [.int x, .int y, .ref a] M = if mK M a = (19, 0) then cbn (cl 111 [.ref a, .int y, .int x] M) 138 31 ls [] else none := r_callV (kd := 0) (by decide +kernel : decode (mB 138) 28 = .ok (.invokevirtual 53, 3)) (by decide +kernel) ((doV_n np_111).trans rfl)
theorem t138_31 : rn 138 31 ls (.int x :: r) M = if x = 0 then rn 138 56 ls r M else if x = 1 then rn 138 68 ls r M else if x = 2 then rn 138 85 ls r M else rn 138 102 ls r M := by
  have D := (by decide +kernel : decode (mB 138) 31 = .ok (.tableswitch 71 0 2 #[25, 37, 54], 25))
  by_cases h0 : x = 0
  · rw [h0, r_tab D]; rfl
  by_cases h1 : x = 1
  · rw [h1, r_tab D]; rfl
  by_cases h2 : x = 2
  · rw [h2, r_tab D]; rfl
  rw [r_tabO D (by have e0 : x.toInt ≠ 0 := ti_ne h0; have e1 : x.toInt ≠ 1 := ti_ne h1; have e2 : x.toInt ≠ 2 := ti_ne h2; omega) (by decide), if_neg h0, if_neg h1, if_neg h2]
  rfl
theorem t138_56 : rn 138 56 (some (.ref a) :: l) r M = rn 138 57 (some (.ref a) :: l) (.ref a :: r) M := r_aload_n (by decide +kernel : decode (mB 138) 56 = .ok (.aload_n 0, 1)) rfl
theorem t138_57 : rn 138 57 (a0 :: a1 :: a2 :: some (.int x) :: l) r M = rn 138 58 (a0 :: a1 :: a2 :: some (.int x) :: l) (.int x :: r) M := r_iload_n (by decide +kernel : decode (mB 138) 57 = .ok (.iload_n 3, 1)) rfl
theorem t138_58 : rn 138 58 ls r M = rn 138 59 ls (.int 1 :: r) M := r_nx (by decide +kernel : decode (mB 138) 58 = .ok (.iconst 1, 1)) rfl rfl
theorem t138_59 : rn 138 59 (a0 :: a1 :: a2 :: a3 :: some (.int x) :: l) r M = rn 138 61 (a0 :: a1 :: a2 :: a3 :: some (.int x) :: l) (.int x :: r) M := r_iload (by decide +kernel : decode (mB 138) 59 = .ok (.iload 4, 2)) rfl
theorem t138_61 : rn 138 61 ls r M = rn 138 62 ls (.int 0 :: r) M := r_nx (by decide +kernel : decode (mB 138) 61 = .ok (.iconst 0, 1)) rfl rfl
theorem t138_62 : rn 138 62 ls [.int x, .int y, .int z, .int w, .ref a] M = if mK M a = (19, 0) then cbn (cl 101 [.ref a, .int w, .int z, .int y, .int x] M) 138 65 ls [] else none := r_callV (kd := 0) (by decide +kernel : decode (mB 138) 62 = .ok (.invokevirtual 85, 3)) (by decide +kernel) ((doV_n np_101).trans rfl)
theorem t138_65 : rn 138 65 ls r M = rn 138 112 ls r M := r_goto (o := 47) (by decide +kernel : decode (mB 138) 65 = .ok (.goto 47, 3)) (by decide)
theorem t138_68 : rn 138 68 (some (.ref a) :: l) r M = rn 138 69 (some (.ref a) :: l) (.ref a :: r) M := r_aload_n (by decide +kernel : decode (mB 138) 68 = .ok (.aload_n 0, 1)) rfl
theorem t138_69 : rn 138 69 (a0 :: a1 :: a2 :: some (.int x) :: l) r M = rn 138 70 (a0 :: a1 :: a2 :: some (.int x) :: l) (.int x :: r) M := r_iload_n (by decide +kernel : decode (mB 138) 69 = .ok (.iload_n 3, 1)) rfl
theorem t138_70 : rn 138 70 ls r M = rn 138 71 ls (.int 1 :: r) M := r_nx (by decide +kernel : decode (mB 138) 70 = .ok (.iconst 1, 1)) rfl rfl
theorem t138_71 : rn 138 71 (some (.ref a) :: l) r M = rn 138 72 (some (.ref a) :: l) (.ref a :: r) M := r_aload_n (by decide +kernel : decode (mB 138) 71 = .ok (.aload_n 0, 1)) rfl
theorem t138_72 : rn 138 72 (a0 :: a1 :: a2 :: some (.int x) :: l) r M = rn 138 73 (a0 :: a1 :: a2 :: some (.int x) :: l) (.int x :: r) M := r_iload_n (by decide +kernel : decode (mB 138) 72 = .ok (.iload_n 3, 1)) rfl
theorem t138_73 : rn 138 73 ls r M = rn 138 74 ls (.int 1 :: r) M := r_nx (by decide +kernel : decode (mB 138) 73 = .ok (.iconst 1, 1)) rfl rfl
theorem t138_74 : rn 138 74 ls [.int x, .int y, .ref a, .int z, .int w, .ref b] M = if mK M a = (19, 0) then cbn (cl 141 [.ref a, .int y, .int x] M) 138 77 ls [.int z, .int w, .ref b] else none := r_callV (kd := 0) (by decide +kernel : decode (mB 138) 74 = .ok (.invokevirtual 89, 3)) (by decide +kernel) ((doV_n np_141).trans rfl)
theorem t138_77 : rn 138 77 (a0 :: a1 :: a2 :: a3 :: some (.int x) :: l) r M = rn 138 79 (a0 :: a1 :: a2 :: a3 :: some (.int x) :: l) (.int x :: r) M := r_iload (by decide +kernel : decode (mB 138) 77 = .ok (.iload 4, 2)) rfl
theorem t138_79 : rn 138 79 ls [.int x, .int y, .int z, .int w, .ref a] M = if mK M a = (19, 0) then cbn (cl 101 [.ref a, .int w, .int z, .int y, .int x] M) 138 82 ls [] else none := r_callV (kd := 0) (by decide +kernel : decode (mB 138) 79 = .ok (.invokevirtual 85, 3)) (by decide +kernel) ((doV_n np_101).trans rfl)
theorem t138_82 : rn 138 82 ls r M = rn 138 112 ls r M := r_goto (o := 30) (by decide +kernel : decode (mB 138) 82 = .ok (.goto 30, 3)) (by decide)
theorem t138_85 : rn 138 85 (some (.ref a) :: l) r M = rn 138 86 (some (.ref a) :: l) (.ref a :: r) M := r_aload_n (by decide +kernel : decode (mB 138) 85 = .ok (.aload_n 0, 1)) rfl
theorem t138_86 : rn 138 86 (a0 :: a1 :: a2 :: some (.int x) :: l) r M = rn 138 87 (a0 :: a1 :: a2 :: some (.int x) :: l) (.int x :: r) M := r_iload_n (by decide +kernel : decode (mB 138) 86 = .ok (.iload_n 3, 1)) rfl
theorem t138_87 : rn 138 87 ls r M = rn 138 88 ls (.int 1 :: r) M := r_nx (by decide +kernel : decode (mB 138) 87 = .ok (.iconst 1, 1)) rfl rfl
theorem t138_88 : rn 138 88 (a0 :: a1 :: a2 :: a3 :: some (.int x) :: l) r M = rn 138 90 (a0 :: a1 :: a2 :: a3 :: some (.int x) :: l) (.int x :: r) M := r_iload (by decide +kernel : decode (mB 138) 88 = .ok (.iload 4, 2)) rfl
theorem t138_90 : rn 138 90 (some (.ref a) :: l) r M = rn 138 91 (some (.ref a) :: l) (.ref a :: r) M := r_aload_n (by decide +kernel : decode (mB 138) 90 = .ok (.aload_n 0, 1)) rfl
theorem t138_91 : rn 138 91 (a0 :: a1 :: a2 :: some (.int x) :: l) r M = rn 138 92 (a0 :: a1 :: a2 :: some (.int x) :: l) (.int x :: r) M := r_iload_n (by decide +kernel : decode (mB 138) 91 = .ok (.iload_n 3, 1)) rfl
theorem t138_92 : rn 138 92 ls r M = rn 138 93 ls (.int 2 :: r) M := r_nx (by decide +kernel : decode (mB 138) 92 = .ok (.iconst 2, 1)) rfl rfl
theorem t138_93 : rn 138 93 ls [.int x, .int y, .ref a, .int z, .int w, .int p, .ref b] M = if mK M a = (19, 0) then cbn (cl 141 [.ref a, .int y, .int x] M) 138 96 ls [.int z, .int w, .int p, .ref b] else none := r_callV (kd := 0) (by decide +kernel : decode (mB 138) 93 = .ok (.invokevirtual 89, 3)) (by decide +kernel) ((doV_n np_141).trans rfl)
theorem t138_96 : rn 138 96 ls [.int x, .int y, .int z, .int w, .ref a] M = if mK M a = (19, 0) then cbn (cl 101 [.ref a, .int w, .int z, .int y, .int x] M) 138 99 ls [] else none := r_callV (kd := 0) (by decide +kernel : decode (mB 138) 96 = .ok (.invokevirtual 85, 3)) (by decide +kernel) ((doV_n np_101).trans rfl)
theorem t138_99 : rn 138 99 ls r M = rn 138 112 ls r M := r_goto (o := 13) (by decide +kernel : decode (mB 138) 99 = .ok (.goto 13, 3)) (by decide)
theorem t138_102 : rn 138 102 (some (.ref a) :: l) r M = rn 138 103 (some (.ref a) :: l) (.ref a :: r) M := r_aload_n (by decide +kernel : decode (mB 138) 102 = .ok (.aload_n 0, 1)) rfl
theorem t138_103 : rn 138 103 (a0 :: a1 :: a2 :: some (.int x) :: l) r M = rn 138 104 (a0 :: a1 :: a2 :: some (.int x) :: l) (.int x :: r) M := r_iload_n (by decide +kernel : decode (mB 138) 103 = .ok (.iload_n 3, 1)) rfl
theorem t138_104 : rn 138 104 ls r M = rn 138 105 ls (.int 0 :: r) M := r_nx (by decide +kernel : decode (mB 138) 104 = .ok (.iconst 0, 1)) rfl rfl
theorem t138_105 : rn 138 105 ls r M = rn 138 107 ls (.int (-6) :: r) M := r_nx (by decide +kernel : decode (mB 138) 105 = .ok (.bipush (-6), 2)) rfl rfl
theorem t138_107 : rn 138 107 ls r M = rn 138 109 ls (.int (-6) :: r) M := r_nx (by decide +kernel : decode (mB 138) 107 = .ok (.bipush (-6), 2)) rfl rfl
theorem t138_109 : rn 138 109 ls [.int x, .int y, .int z, .int w, .ref a] M = if mK M a = (19, 0) then cbn (cl 101 [.ref a, .int w, .int z, .int y, .int x] M) 138 112 ls [] else none := r_callV (kd := 0) (by decide +kernel : decode (mB 138) 109 = .ok (.invokevirtual 85, 3)) (by decide +kernel) ((doV_n np_101).trans rfl)
theorem t138_112 : rn 138 112 (a0 :: a1 :: some (.int x) :: l) r M = rn 138 113 (a0 :: a1 :: some (.int x) :: l) (.int x :: r) M := r_iload_n (by decide +kernel : decode (mB 138) 112 = .ok (.iload_n 2, 1)) rfl
theorem t138_113 : rn 138 113 ls [.int x] M = some (some (.int x), M) := r_ireturn (by decide +kernel : decode (mB 138) 113 = .ok (.ireturn, 1)) rfl
-- 139 DRModel_reasonOf(I)I
theorem t139_0 : rn 139 0 (some (.ref a) :: l) r M = rn 139 1 (some (.ref a) :: l) (.ref a :: r) M := r_aload_n (by decide +kernel : decode (mB 139) 0 = .ok (.aload_n 0, 1)) rfl
theorem t139_1 : rn 139 1 (a0 :: some (.int x) :: l) r M = rn 139 2 (a0 :: some (.int x) :: l) (.int x :: r) M := r_iload_n (by decide +kernel : decode (mB 139) 1 = .ok (.iload_n 1, 1)) rfl
theorem t139_2 : rn 139 2 ls r M = rn 139 3 ls (.int 0 :: r) M := r_nx (by decide +kernel : decode (mB 139) 2 = .ok (.iconst 0, 1)) rfl rfl
theorem t139_3 : rn 139 3 ls [.int x, .int y, .ref a] M = if mK M a = (19, 0) then cbn (cl 111 [.ref a, .int y, .int x] M) 139 6 ls [] else none := r_callV (kd := 0) (by decide +kernel : decode (mB 139) 3 = .ok (.invokevirtual 53, 3)) (by decide +kernel) ((doV_n np_111).trans rfl)
theorem t139_6 : rn 139 6 (a0 :: a1 :: a2 :: l) (.int x :: r) M = rn 139 7 (a0 :: a1 :: some (.int x) :: l) r M := r_istore_n (by decide +kernel : decode (mB 139) 6 = .ok (.istore_n 2, 1)) (Nat.le_add_left 3 l.length)
theorem t139_7 : rn 139 7 (some (.ref a) :: l) r M = rn 139 8 (some (.ref a) :: l) (.ref a :: r) M := r_aload_n (by decide +kernel : decode (mB 139) 7 = .ok (.aload_n 0, 1)) rfl
theorem t139_8 : rn 139 8 (a0 :: some (.int x) :: l) r M = rn 139 9 (a0 :: some (.int x) :: l) (.int x :: r) M := r_iload_n (by decide +kernel : decode (mB 139) 8 = .ok (.iload_n 1, 1)) rfl
theorem t139_9 : rn 139 9 ls r M = rn 139 10 ls (.int 1 :: r) M := r_nx (by decide +kernel : decode (mB 139) 9 = .ok (.iconst 1, 1)) rfl rfl
theorem t139_10 : rn 139 10 ls [.int x, .int y, .ref a] M = if mK M a = (19, 0) then cbn (cl 111 [.ref a, .int y, .int x] M) 139 13 ls [] else none := r_callV (kd := 0) (by decide +kernel : decode (mB 139) 10 = .ok (.invokevirtual 53, 3)) (by decide +kernel) ((doV_n np_111).trans rfl)
theorem t139_13 : rn 139 13 (a0 :: a1 :: a2 :: a3 :: l) (.int x :: r) M = rn 139 14 (a0 :: a1 :: a2 :: some (.int x) :: l) r M := r_istore_n (by decide +kernel : decode (mB 139) 13 = .ok (.istore_n 3, 1)) (Nat.le_add_left 4 l.length)
theorem t139_14 : rn 139 14 (some (.ref a) :: l) r M = rn 139 15 (some (.ref a) :: l) (.ref a :: r) M := r_aload_n (by decide +kernel : decode (mB 139) 14 = .ok (.aload_n 0, 1)) rfl
theorem t139_15 : rn 139 15 (a0 :: some (.int x) :: l) r M = rn 139 16 (a0 :: some (.int x) :: l) (.int x :: r) M := r_iload_n (by decide +kernel : decode (mB 139) 15 = .ok (.iload_n 1, 1)) rfl
theorem t139_16 : rn 139 16 ls r M = rn 139 17 ls (.int 2 :: r) M := r_nx (by decide +kernel : decode (mB 139) 16 = .ok (.iconst 2, 1)) rfl rfl
theorem t139_17 : rn 139 17 ls [.int x, .int y, .ref a] M = if mK M a = (19, 0) then cbn (cl 111 [.ref a, .int y, .int x] M) 139 20 ls [] else none := r_callV (kd := 0) (by decide +kernel : decode (mB 139) 17 = .ok (.invokevirtual 53, 3)) (by decide +kernel) ((doV_n np_111).trans rfl)
theorem t139_20 : rn 139 20 (a0 :: a1 :: a2 :: a3 :: a4 :: l) (.int x :: r) M = rn 139 22 (a0 :: a1 :: a2 :: a3 :: some (.int x) :: l) r M := r_istore (by decide +kernel : decode (mB 139) 20 = .ok (.istore 4, 2)) (Nat.le_add_left 5 l.length)
theorem t139_22 : rn 139 22 (a0 :: a1 :: some (.int x) :: l) r M = rn 139 23 (a0 :: a1 :: some (.int x) :: l) (.int x :: r) M := r_iload_n (by decide +kernel : decode (mB 139) 22 = .ok (.iload_n 2, 1)) rfl
theorem t139_23 : rn 139 23 ls (.int x :: r) M = if ¬ x = 0 then rn 139 36 ls r M else rn 139 26 ls r M := r_if (o := 13) (r := r) (c := ¬ x = 0) (by decide +kernel : decode (mB 139) 23 = .ok (.ifCond .ne 13, 3)) rfl (by decide) rfl
theorem t139_26 : rn 139 26 (some (.ref a) :: l) r M = rn 139 27 (some (.ref a) :: l) (.ref a :: r) M := r_aload_n (by decide +kernel : decode (mB 139) 26 = .ok (.aload_n 0, 1)) rfl
theorem t139_27 : rn 139 27 (a0 :: a1 :: a2 :: some (.int x) :: l) r M = rn 139 28 (a0 :: a1 :: a2 :: some (.int x) :: l) (.int x :: r) M := r_iload_n (by decide +kernel : decode (mB 139) 27 = .ok (.iload_n 3, 1)) rfl
theorem t139_28 : rn 139 28 ls [.int x, .ref a] M = if mK M a = (19, 0) then cbn (cl 140 [.ref a, .int x] M) 139 31 ls [] else none := r_callV (kd := 0) (by decide +kernel : decode (mB 139) 28 = .ok (.invokevirtual 92, 3)) (by decide +kernel) ((doV_n np_140).trans rfl)
theorem t139_31 : rn 139 31 ls (.int x :: r) M = if x = 0 then rn 139 36 ls r M else rn 139 34 ls r M := r_if (o := 5) (r := r) (c := x = 0) (by decide +kernel : decode (mB 139) 31 = .ok (.ifCond .eq 5, 3)) rfl (by decide) rfl
theorem t139_34 : rn 139 34 ls r M = rn 139 35 ls (.int 1 :: r) M := r_nx (by decide +kernel : decode (mB 139) 34 = .ok (.iconst 1, 1)) rfl rfl
theorem t139_35 : rn 139 35 ls [.int x] M = some (some (.int x), M) := r_ireturn (by decide +kernel : decode (mB 139) 35 = .ok (.ireturn, 1)) rfl
theorem t139_36 : rn 139 36 (a0 :: a1 :: some (.int x) :: l) r M = rn 139 37 (a0 :: a1 :: some (.int x) :: l) (.int x :: r) M := r_iload_n (by decide +kernel : decode (mB 139) 36 = .ok (.iload_n 2, 1)) rfl
theorem t139_37 : rn 139 37 ls (.int x :: r) M = if x = 0 then rn 139 50 ls r M else rn 139 40 ls r M := r_if (o := 13) (r := r) (c := x = 0) (by decide +kernel : decode (mB 139) 37 = .ok (.ifCond .eq 13, 3)) rfl (by decide) rfl
theorem t139_40 : rn 139 40 (some (.ref a) :: l) r M = rn 139 41 (some (.ref a) :: l) (.ref a :: r) M := r_aload_n (by decide +kernel : decode (mB 139) 40 = .ok (.aload_n 0, 1)) rfl
theorem t139_41 : rn 139 41 (a0 :: a1 :: a2 :: some (.int x) :: l) r M = rn 139 42 (a0 :: a1 :: a2 :: some (.int x) :: l) (.int x :: r) M := r_iload_n (by decide +kernel : decode (mB 139) 41 = .ok (.iload_n 3, 1)) rfl
theorem t139_42 : rn 139 42 ls [.int x, .ref a] M = if mK M a = (19, 0) then cbn (cl 140 [.ref a, .int x] M) 139 45 ls [] else none := r_callV (kd := 0) (by decide +kernel : decode (mB 139) 42 = .ok (.invokevirtual 92, 3)) (by decide +kernel) ((doV_n np_140).trans rfl)
theorem t139_45 : rn 139 45 ls (.int x :: r) M = if ¬ x = 0 then rn 139 50 ls r M else rn 139 48 ls r M := r_if (o := 5) (r := r) (c := ¬ x = 0) (by decide +kernel : decode (mB 139) 45 = .ok (.ifCond .ne 5, 3)) rfl (by decide) rfl
theorem t139_48 : rn 139 48 ls r M = rn 139 49 ls (.int 2 :: r) M := r_nx (by decide +kernel : decode (mB 139) 48 = .ok (.iconst 2, 1)) rfl rfl
theorem t139_49 : rn 139 49 ls [.int x] M = some (some (.int x), M) := r_ireturn (by decide +kernel : decode (mB 139) 49 = .ok (.ireturn, 1)) rfl
theorem t139_50 : rn 139 50 (some (.ref a) :: l) r M = rn 139 51 (some (.ref a) :: l) (.ref a :: r) M := r_aload_n (by decide +kernel : decode (mB 139) 50 = .ok (.aload_n 0, 1)) rfl
theorem t139_51 : rn 139 51 (a0 :: some (.int x) :: l) r M = rn 139 52 (a0 :: some (.int x) :: l) (.int x :: r) M := r_iload_n (by decide +kernel : decode (mB 139) 51 = .ok (.iload_n 1, 1)) rfl
theorem t139_52 : rn 139 52 ls [.int x, .ref a] M = if mK M a = (19, 0) then cbn (cl 114 [.ref a, .int x] M) 139 55 ls [] else none := r_callV (kd := 0) (by decide +kernel : decode (mB 139) 52 = .ok (.invokevirtual 61, 3)) (by decide +kernel) ((doV_n np_114).trans rfl)
theorem t139_55 : rn 139 55 ls (.int x :: r) M = if x = 0 then rn 139 69 ls r M else rn 139 58 ls r M := r_if (o := 14) (r := r) (c := x = 0) (by decide +kernel : decode (mB 139) 55 = .ok (.ifCond .eq 14, 3)) rfl (by decide) rfl
theorem t139_58 : rn 139 58 (some (.ref a) :: l) r M = rn 139 59 (some (.ref a) :: l) (.ref a :: r) M := r_aload_n (by decide +kernel : decode (mB 139) 58 = .ok (.aload_n 0, 1)) rfl
theorem t139_59 : rn 139 59 (a0 :: a1 :: a2 :: a3 :: some (.int x) :: l) r M = rn 139 61 (a0 :: a1 :: a2 :: a3 :: some (.int x) :: l) (.int x :: r) M := r_iload (by decide +kernel : decode (mB 139) 59 = .ok (.iload 4, 2)) rfl
theorem t139_61 : rn 139 61 ls [.int x, .ref a] M = if mK M a = (19, 0) then cbn (cl 140 [.ref a, .int x] M) 139 64 ls [] else none := r_callV (kd := 0) (by decide +kernel : decode (mB 139) 61 = .ok (.invokevirtual 92, 3)) (by decide +kernel) ((doV_n np_140).trans rfl)
theorem t139_64 : rn 139 64 ls (.int x :: r) M = if ¬ x = 0 then rn 139 69 ls r M else rn 139 67 ls r M := r_if (o := 5) (r := r) (c := ¬ x = 0) (by decide +kernel : decode (mB 139) 64 = .ok (.ifCond .ne 5, 3)) rfl (by decide) rfl
theorem t139_67 : rn 139 67 ls r M = rn 139 68 ls (.int 3 :: r) M := r_nx (by decide +kernel : decode (mB 139) 67 = .ok (.iconst 3, 1)) rfl rfl
theorem t139_68 : rn 139 68 ls [.int x] M = some (some (.int x), M) := r_ireturn (by decide +kernel : decode (mB 139) 68 = .ok (.ireturn, 1)) rfl
theorem t139_69 : rn 139 69 (a0 :: a1 :: some (.int x) :: l) r M = rn 139 70 (a0 :: a1 :: some (.int x) :: l) (.int x :: r) M := r_iload_n (by decide +kernel : decode (mB 139) 69 = .ok (.iload_n 2, 1)) rfl
theorem t139_70 : rn 139 70 ls r M = rn 139 71 ls (.int 2 :: r) M := r_nx (by decide +kernel : decode (mB 139) 70 = .ok (.iconst 2, 1)) rfl rfl
theorem t139_71 : rn 139 71 ls (.int y :: .int x :: r) M = if ¬ x = y then rn 139 86 ls r M else rn 139 74 ls r M := r_if (o := 15) (r := r) (c := ¬ x = y) (by decide +kernel : decode (mB 139) 71 = .ok (.if_icmp .ne 15, 3)) rfl (by decide) rfl
theorem t139_74 : rn 139 74 (some (.ref a) :: l) r M = rn 139 75 (some (.ref a) :: l) (.ref a :: r) M := r_aload_n (by decide +kernel : decode (mB 139) 74 = .ok (.aload_n 0, 1)) rfl
theorem t139_75 : rn 139 75 (a0 :: a1 :: a2 :: a3 :: some (.int x) :: l) r M = rn 139 77 (a0 :: a1 :: a2 :: a3 :: some (.int x) :: l) (.int x :: r) M := r_iload (by decide +kernel : decode (mB 139) 75 = .ok (.iload 4, 2)) rfl
theorem t139_77 : rn 139 77 (a0 :: a1 :: a2 :: some (.int x) :: l) r M = rn 139 78 (a0 :: a1 :: a2 :: some (.int x) :: l) (.int x :: r) M := r_iload_n (by decide +kernel : decode (mB 139) 77 = .ok (.iload_n 3, 1)) rfl
theorem t139_78 : rn 139 78 ls [.int x, .int y, .ref a] M = if mK M a = (19, 0) then cbn (cl 142 [.ref a, .int y, .int x] M) 139 81 ls [] else none := r_callV (kd := 0) (by decide +kernel : decode (mB 139) 78 = .ok (.invokevirtual 95, 3)) (by decide +kernel) ((doV_n np_142).trans rfl)
theorem t139_81 : rn 139 81 ls (.int x :: r) M = if x = 0 then rn 139 86 ls r M else rn 139 84 ls r M := r_if (o := 5) (r := r) (c := x = 0) (by decide +kernel : decode (mB 139) 81 = .ok (.ifCond .eq 5, 3)) rfl (by decide) rfl
theorem t139_84 : rn 139 84 ls r M = rn 139 85 ls (.int 4 :: r) M := r_nx (by decide +kernel : decode (mB 139) 84 = .ok (.iconst 4, 1)) rfl rfl
theorem t139_85 : rn 139 85 ls [.int x] M = some (some (.int x), M) := r_ireturn (by decide +kernel : decode (mB 139) 85 = .ok (.ireturn, 1)) rfl
theorem t139_86 : rn 139 86 (a0 :: a1 :: some (.int x) :: l) r M = rn 139 87 (a0 :: a1 :: some (.int x) :: l) (.int x :: r) M := r_iload_n (by decide +kernel : decode (mB 139) 86 = .ok (.iload_n 2, 1)) rfl
theorem t139_87 : rn 139 87 ls r M = rn 139 88 ls (.int 3 :: r) M := r_nx (by decide +kernel : decode (mB 139) 87 = .ok (.iconst 3, 1)) rfl rfl
theorem t139_88 : rn 139 88 ls (.int y :: .int x :: r) M = if ¬ x = y then rn 139 103 ls r M else rn 139 91 ls r M := r_if (o := 15) (r := r) (c := ¬ x = y) (by decide +kernel : decode (mB 139) 88 = .ok (.if_icmp .ne 15, 3)) rfl (by decide) rfl
theorem t139_91 : rn 139 91 (some (.ref a) :: l) r M = rn 139 92 (some (.ref a) :: l) (.ref a :: r) M := r_aload_n (by decide +kernel : decode (mB 139) 91 = .ok (.aload_n 0, 1)) rfl
theorem t139_92 : rn 139 92 (a0 :: a1 :: a2 :: some (.int x) :: l) r M = rn 139 93 (a0 :: a1 :: a2 :: some (.int x) :: l) (.int x :: r) M := r_iload_n (by decide +kernel : decode (mB 139) 92 = .ok (.iload_n 3, 1)) rfl
theorem t139_93 : rn 139 93 ls [.int x, .ref a] M = if mK M a = (19, 0) then cbn (cl 143 [.ref a, .int x] M) 139 96 ls [] else none := r_callV (kd := 0) (by decide +kernel : decode (mB 139) 93 = .ok (.invokevirtual 99, 3)) (by decide +kernel) ((doV_n np_143).trans rfl)
theorem t139_96 : rn 139 96 ls (.int x :: r) M = if x = 0 then rn 139 103 ls r M else rn 139 99 ls r M := r_if (o := 7) (r := r) (c := x = 0) (by decide +kernel : decode (mB 139) 96 = .ok (.ifCond .eq 7, 3)) rfl (by decide) rfl
theorem t139_99 : rn 139 99 ls r M = rn 139 100 ls (.int 5 :: r) M := r_nx (by decide +kernel : decode (mB 139) 99 = .ok (.iconst 5, 1)) rfl rfl
theorem t139_100 : rn 139 100 ls r M = rn 139 104 ls r M := r_goto (o := 4) (by decide +kernel : decode (mB 139) 100 = .ok (.goto 4, 3)) (by decide)
theorem t139_103 : rn 139 103 ls r M = rn 139 104 ls (.int 0 :: r) M := r_nx (by decide +kernel : decode (mB 139) 103 = .ok (.iconst 0, 1)) rfl rfl
theorem t139_104 : rn 139 104 ls [.int x] M = some (some (.int x), M) := r_ireturn (by decide +kernel : decode (mB 139) 104 = .ok (.ireturn, 1)) rfl
-- 140 DRModel_isThere(I)Z
theorem t140_0 : rn 140 0 (some (.ref a) :: l) r M = rn 140 1 (some (.ref a) :: l) (.ref a :: r) M := r_aload_n (by decide +kernel : decode (mB 140) 0 = .ok (.aload_n 0, 1)) rfl
theorem t140_1 : rn 140 1 (a0 :: some (.int x) :: l) r M = rn 140 2 (a0 :: some (.int x) :: l) (.int x :: r) M := r_iload_n (by decide +kernel : decode (mB 140) 1 = .ok (.iload_n 1, 1)) rfl
theorem t140_2 : rn 140 2 ls r M = rn 140 3 ls (.int 0 :: r) M := r_nx (by decide +kernel : decode (mB 140) 2 = .ok (.iconst 0, 1)) rfl rfl
theorem t140_3 : rn 140 3 ls [.int x, .int y, .ref a] M = if mK M a = (19, 0) then cbn (cl 141 [.ref a, .int y, .int x] M) 140 6 ls [] else none := r_callV (kd := 0) (by decide +kernel : decode (mB 140) 3 = .ok (.invokevirtual 89, 3)) (by decide +kernel) ((doV_n np_141).trans rfl)
theorem t140_6 : rn 140 6 ls r M = rn 140 7 ls (.int 1 :: r) M := r_nx (by decide +kernel : decode (mB 140) 6 = .ok (.iconst 1, 1)) rfl rfl
theorem t140_7 : rn 140 7 ls (.int y :: .int x :: r) M = if ¬ x = y then rn 140 14 ls r M else rn 140 10 ls r M := r_if (o := 7) (r := r) (c := ¬ x = y) (by decide +kernel : decode (mB 140) 7 = .ok (.if_icmp .ne 7, 3)) rfl (by decide) rfl
theorem t140_10 : rn 140 10 ls r M = rn 140 11 ls (.int 1 :: r) M := r_nx (by decide +kernel : decode (mB 140) 10 = .ok (.iconst 1, 1)) rfl rfl
theorem t140_11 : rn 140 11 ls r M = rn 140 15 ls r M := r_goto (o := 4) (by decide +kernel : decode (mB 140) 11 = .ok (.goto 4, 3)) (by decide)
theorem t140_14 : rn 140 14 ls r M = rn 140 15 ls (.int 0 :: r) M := r_nx (by decide +kernel : decode (mB 140) 14 = .ok (.iconst 0, 1)) rfl rfl
theorem t140_15 : rn 140 15 ls [.int x] M = if x = 0 ∨ x = 1 then some (some (.int x), M) else none := r_zreturn (by decide +kernel : decode (mB 140) 15 = .ok (.ireturn, 1)) rfl
-- 141 DRModel_filePart(II)I
theorem t141_0 : rn 141 0 (some (.ref a) :: l) r M = rn 141 1 (some (.ref a) :: l) (.ref a :: r) M := r_aload_n (by decide +kernel : decode (mB 141) 0 = .ok (.aload_n 0, 1)) rfl
theorem t141_1 : rn 141 1 ls (.ref a :: r) M = if mK M a = (19, 0) then rn 141 4 ls (va_rf (mP M a 0) :: r) M else none := r_getP (ci := 9) (k := 0) (by decide +kernel : decode (mB 141) 1 = .ok (.getfield 7, 3)) (by decide +kernel) rfl
theorem t141_4 : rn 141 4 ls r M = rn 141 7 ls (.int 322 :: r) M := r_nx (by decide +kernel : decode (mB 141) 4 = .ok (.sipush 322, 3)) rfl rfl
theorem t141_7 : rn 141 7 ls r M = rn 141 8 ls (.int 3 :: r) M := r_nx (by decide +kernel : decode (mB 141) 7 = .ok (.iconst 3, 1)) rfl rfl
theorem t141_8 : rn 141 8 (a0 :: some (.int x) :: l) r M = rn 141 9 (a0 :: some (.int x) :: l) (.int x :: r) M := r_iload_n (by decide +kernel : decode (mB 141) 8 = .ok (.iload_n 1, 1)) rfl
theorem t141_9 : rn 141 9 ls (.int y :: .int x :: r) M = rn 141 10 ls (.int (x * y) :: r) M := r_nx (by decide +kernel : decode (mB 141) 9 = .ok (.imul, 1)) rfl rfl
theorem t141_10 : rn 141 10 ls (.int y :: .int x :: r) M = rn 141 11 ls (.int (x + y) :: r) M := r_nx (by decide +kernel : decode (mB 141) 10 = .ok (.iadd, 1)) rfl rfl
theorem t141_11 : rn 141 11 (a0 :: a1 :: some (.int x) :: l) r M = rn 141 12 (a0 :: a1 :: some (.int x) :: l) (.int x :: r) M := r_iload_n (by decide +kernel : decode (mB 141) 11 = .ok (.iload_n 2, 1)) rfl
theorem t141_12 : rn 141 12 ls (.int y :: .int x :: r) M = rn 141 13 ls (.int (x + y) :: r) M := r_nx (by decide +kernel : decode (mB 141) 12 = .ok (.iadd, 1)) rfl rfl
theorem t141_13 : rn 141 13 ls (.int x :: .ref a :: r) M = if ((mK M a).1 = 1 ∨ (mK M a).1 = 5) ∧ inR x (mK M a).2 then rn 141 14 ls (.int (mI M a x.toNatClampNeg) :: r) M else none := r_cnd (by decide +kernel : decode (mB 141) 13 = .ok (.iaload, 1)) rfl rfl
theorem t141_14 : rn 141 14 ls [.int x] M = some (some (.int x), M) := r_ireturn (by decide +kernel : decode (mB 141) 14 = .ok (.ireturn, 1)) rfl
-- 142 DRModel_isUnder(II)Z
theorem t142_0 : rn 142 0 (a0 :: some (.int x) :: l) r M = rn 142 1 (a0 :: some (.int x) :: l) (.int x :: r) M := r_iload_n (by decide +kernel : decode (mB 142) 0 = .ok (.iload_n 1, 1)) rfl
theorem t142_1 : rn 142 1 (a0 :: a1 :: a2 :: a3 :: l) (.int x :: r) M = rn 142 2 (a0 :: a1 :: a2 :: some (.int x) :: l) r M := r_istore_n (by decide +kernel : decode (mB 142) 1 = .ok (.istore_n 3, 1)) (Nat.le_add_left 4 l.length)
theorem t142_2 : rn 142 2 (a0 :: a1 :: a2 :: some (.int x) :: l) r M = rn 142 3 (a0 :: a1 :: a2 :: some (.int x) :: l) (.int x :: r) M := r_iload_n (by decide +kernel : decode (mB 142) 2 = .ok (.iload_n 3, 1)) rfl
theorem t142_3 : rn 142 3 ls r M = rn 142 5 ls (.int (-6) :: r) M := r_nx (by decide +kernel : decode (mB 142) 3 = .ok (.bipush (-6), 2)) rfl rfl
theorem t142_5 : rn 142 5 ls (.int y :: .int x :: r) M = if x = y then rn 142 23 ls r M else rn 142 8 ls r M := r_if (o := 18) (r := r) (c := x = y) (by decide +kernel : decode (mB 142) 5 = .ok (.if_icmp .eq 18, 3)) rfl (by decide) rfl
theorem t142_8 : rn 142 8 (a0 :: a1 :: a2 :: some (.int x) :: l) r M = rn 142 9 (a0 :: a1 :: a2 :: some (.int x) :: l) (.int x :: r) M := r_iload_n (by decide +kernel : decode (mB 142) 8 = .ok (.iload_n 3, 1)) rfl
theorem t142_9 : rn 142 9 (a0 :: a1 :: some (.int x) :: l) r M = rn 142 10 (a0 :: a1 :: some (.int x) :: l) (.int x :: r) M := r_iload_n (by decide +kernel : decode (mB 142) 9 = .ok (.iload_n 2, 1)) rfl
theorem t142_10 : rn 142 10 ls (.int y :: .int x :: r) M = if x = y then rn 142 23 ls r M else rn 142 13 ls r M := r_if (o := 13) (r := r) (c := x = y) (by decide +kernel : decode (mB 142) 10 = .ok (.if_icmp .eq 13, 3)) rfl (by decide) rfl
theorem t142_13 : rn 142 13 (some (.ref a) :: l) r M = rn 142 14 (some (.ref a) :: l) (.ref a :: r) M := r_aload_n (by decide +kernel : decode (mB 142) 13 = .ok (.aload_n 0, 1)) rfl
theorem t142_14 : rn 142 14 (a0 :: a1 :: a2 :: some (.int x) :: l) r M = rn 142 15 (a0 :: a1 :: a2 :: some (.int x) :: l) (.int x :: r) M := r_iload_n (by decide +kernel : decode (mB 142) 14 = .ok (.iload_n 3, 1)) rfl
theorem t142_15 : rn 142 15 ls r M = rn 142 16 ls (.int 1 :: r) M := r_nx (by decide +kernel : decode (mB 142) 15 = .ok (.iconst 1, 1)) rfl rfl
theorem t142_16 : rn 142 16 ls [.int x, .int y, .ref a] M = if mK M a = (19, 0) then cbn (cl 141 [.ref a, .int y, .int x] M) 142 19 ls [] else none := r_callV (kd := 0) (by decide +kernel : decode (mB 142) 16 = .ok (.invokevirtual 89, 3)) (by decide +kernel) ((doV_n np_141).trans rfl)
theorem t142_19 : rn 142 19 (a0 :: a1 :: a2 :: a3 :: l) (.int x :: r) M = rn 142 20 (a0 :: a1 :: a2 :: some (.int x) :: l) r M := r_istore_n (by decide +kernel : decode (mB 142) 19 = .ok (.istore_n 3, 1)) (Nat.le_add_left 4 l.length)
theorem t142_20 : rn 142 20 ls r M = rn 142 2 ls r M := r_goto (o := (-18)) (by decide +kernel : decode (mB 142) 20 = .ok (.goto (-18), 3)) (by decide)
theorem t142_23 : rn 142 23 (a0 :: a1 :: a2 :: some (.int x) :: l) r M = rn 142 24 (a0 :: a1 :: a2 :: some (.int x) :: l) (.int x :: r) M := r_iload_n (by decide +kernel : decode (mB 142) 23 = .ok (.iload_n 3, 1)) rfl
theorem t142_24 : rn 142 24 (a0 :: a1 :: some (.int x) :: l) r M = rn 142 25 (a0 :: a1 :: some (.int x) :: l) (.int x :: r) M := r_iload_n (by decide +kernel : decode (mB 142) 24 = .ok (.iload_n 2, 1)) rfl
theorem t142_25 : rn 142 25 ls (.int y :: .int x :: r) M = if ¬ x = y then rn 142 32 ls r M else rn 142 28 ls r M := r_if (o := 7) (r := r) (c := ¬ x = y) (by decide +kernel : decode (mB 142) 25 = .ok (.if_icmp .ne 7, 3)) rfl (by decide) rfl
theorem t142_28 : rn 142 28 ls r M = rn 142 29 ls (.int 1 :: r) M := r_nx (by decide +kernel : decode (mB 142) 28 = .ok (.iconst 1, 1)) rfl rfl
theorem t142_29 : rn 142 29 ls r M = rn 142 33 ls r M := r_goto (o := 4) (by decide +kernel : decode (mB 142) 29 = .ok (.goto 4, 3)) (by decide)
theorem t142_32 : rn 142 32 ls r M = rn 142 33 ls (.int 0 :: r) M := r_nx (by decide +kernel : decode (mB 142) 32 = .ok (.iconst 0, 1)) rfl rfl
theorem t142_33 : rn 142 33 ls [.int x] M = if x = 0 ∨ x = 1 then some (some (.int x), M) else none := r_zreturn (by decide +kernel : decode (mB 142) 33 = .ok (.ireturn, 1)) rfl
-- 143 DRModel_filesIn(I)I
theorem t143_0 : rn 143 0 ls r M = rn 143 1 ls (.int 0 :: r) M := r_nx (by decide +kernel : decode (mB 143) 0 = .ok (.iconst 0, 1)) rfl rfl
theorem t143_1 : rn 143 1 (a0 :: a1 :: a2 :: l) (.int x :: r) M = rn 143 2 (a0 :: a1 :: some (.int x) :: l) r M := r_istore_n (by decide +kernel : decode (mB 143) 1 = .ok (.istore_n 2, 1)) (Nat.le_add_left 3 l.length)
theorem t143_2 : rn 143 2 ls r M = rn 143 3 ls (.int 1 :: r) M := r_nx (by decide +kernel : decode (mB 143) 2 = .ok (.iconst 1, 1)) rfl rfl
theorem t143_3 : rn 143 3 (a0 :: a1 :: a2 :: a3 :: l) (.int x :: r) M = rn 143 4 (a0 :: a1 :: a2 :: some (.int x) :: l) r M := r_istore_n (by decide +kernel : decode (mB 143) 3 = .ok (.istore_n 3, 1)) (Nat.le_add_left 4 l.length)
theorem t143_4 : rn 143 4 (a0 :: a1 :: a2 :: some (.int x) :: l) r M = rn 143 5 (a0 :: a1 :: a2 :: some (.int x) :: l) (.int x :: r) M := r_iload_n (by decide +kernel : decode (mB 143) 4 = .ok (.iload_n 3, 1)) rfl
theorem t143_5 : rn 143 5 ls r M = rn 143 7 ls (.int 16 :: r) M := r_nx (by decide +kernel : decode (mB 143) 5 = .ok (.bipush 16, 2)) rfl rfl
theorem t143_7 : rn 143 7 ls (.int y :: .int x :: r) M = if y ≤ x then rn 143 44 ls r M else rn 143 10 ls r M := r_if (o := 37) (r := r) (c := y ≤ x) (by decide +kernel : decode (mB 143) 7 = .ok (.if_icmp .ge 37, 3)) rfl (by decide) rfl
theorem t143_10 : rn 143 10 (a0 :: a1 :: some (.int x) :: l) r M = rn 143 11 (a0 :: a1 :: some (.int x) :: l) (.int x :: r) M := r_iload_n (by decide +kernel : decode (mB 143) 10 = .ok (.iload_n 2, 1)) rfl
theorem t143_11 : rn 143 11 (some (.ref a) :: l) r M = rn 143 12 (some (.ref a) :: l) (.ref a :: r) M := r_aload_n (by decide +kernel : decode (mB 143) 11 = .ok (.aload_n 0, 1)) rfl
theorem t143_12 : rn 143 12 (a0 :: a1 :: a2 :: some (.int x) :: l) r M = rn 143 13 (a0 :: a1 :: a2 :: some (.int x) :: l) (.int x :: r) M := r_iload_n (by decide +kernel : decode (mB 143) 12 = .ok (.iload_n 3, 1)) rfl
theorem t143_13 : rn 143 13 ls [.int x, .ref a, .int y] M = if mK M a = (19, 0) then cbn (cl 140 [.ref a, .int x] M) 143 16 ls [.int y] else none := r_callV (kd := 0) (by decide +kernel : decode (mB 143) 13 = .ok (.invokevirtual 92, 3)) (by decide +kernel) ((doV_n np_140).trans rfl)
theorem t143_16 : rn 143 16 ls (.int x :: r) M = if x = 0 then rn 143 35 ls r M else rn 143 19 ls r M := r_if (o := 19) (r := r) (c := x = 0) (by decide +kernel : decode (mB 143) 16 = .ok (.ifCond .eq 19, 3)) rfl (by decide) rfl
theorem t143_19 : rn 143 19 (some (.ref a) :: l) r M = rn 143 20 (some (.ref a) :: l) (.ref a :: r) M := r_aload_n (by decide +kernel : decode (mB 143) 19 = .ok (.aload_n 0, 1)) rfl
theorem t143_20 : rn 143 20 (a0 :: a1 :: a2 :: some (.int x) :: l) r M = rn 143 21 (a0 :: a1 :: a2 :: some (.int x) :: l) (.int x :: r) M := r_iload_n (by decide +kernel : decode (mB 143) 20 = .ok (.iload_n 3, 1)) rfl
theorem t143_21 : rn 143 21 ls r M = rn 143 22 ls (.int 1 :: r) M := r_nx (by decide +kernel : decode (mB 143) 21 = .ok (.iconst 1, 1)) rfl rfl
theorem t143_22 : rn 143 22 ls [.int x, .int y, .ref a, .int z] M = if mK M a = (19, 0) then cbn (cl 141 [.ref a, .int y, .int x] M) 143 25 ls [.int z] else none := r_callV (kd := 0) (by decide +kernel : decode (mB 143) 22 = .ok (.invokevirtual 89, 3)) (by decide +kernel) ((doV_n np_141).trans rfl)
theorem t143_25 : rn 143 25 (a0 :: some (.int x) :: l) r M = rn 143 26 (a0 :: some (.int x) :: l) (.int x :: r) M := r_iload_n (by decide +kernel : decode (mB 143) 25 = .ok (.iload_n 1, 1)) rfl
theorem t143_26 : rn 143 26 ls (.int y :: .int x :: r) M = if ¬ x = y then rn 143 35 ls r M else rn 143 29 ls r M := r_if (o := 9) (r := r) (c := ¬ x = y) (by decide +kernel : decode (mB 143) 26 = .ok (.if_icmp .ne 9, 3)) rfl (by decide) rfl
theorem t143_29 : rn 143 29 ls r M = rn 143 30 ls (.int 1 :: r) M := r_nx (by decide +kernel : decode (mB 143) 29 = .ok (.iconst 1, 1)) rfl rfl
theorem t143_30 : rn 143 30 (a0 :: a1 :: a2 :: some (.int x) :: l) r M = rn 143 31 (a0 :: a1 :: a2 :: some (.int x) :: l) (.int x :: r) M := r_iload_n (by decide +kernel : decode (mB 143) 30 = .ok (.iload_n 3, 1)) rfl
theorem t143_31 : rn 143 31 ls (.int y :: .int x :: r) M = rn 143 32 ls (.int (x <<< (y &&& 31)) :: r) M := r_nx (by decide +kernel : decode (mB 143) 31 = .ok (.ishl, 1)) rfl rfl
theorem t143_32 : rn 143 32 ls r M = rn 143 36 ls r M := r_goto (o := 4) (by decide +kernel : decode (mB 143) 32 = .ok (.goto 4, 3)) (by decide)
theorem t143_35 : rn 143 35 ls r M = rn 143 36 ls (.int 0 :: r) M := r_nx (by decide +kernel : decode (mB 143) 35 = .ok (.iconst 0, 1)) rfl rfl
theorem t143_36 : rn 143 36 ls (.int y :: .int x :: r) M = rn 143 37 ls (.int (x ||| y) :: r) M := r_nx (by decide +kernel : decode (mB 143) 36 = .ok (.ior, 1)) rfl rfl
theorem t143_37 : rn 143 37 (a0 :: a1 :: a2 :: l) (.int x :: r) M = rn 143 38 (a0 :: a1 :: some (.int x) :: l) r M := r_istore_n (by decide +kernel : decode (mB 143) 37 = .ok (.istore_n 2, 1)) (Nat.le_add_left 3 l.length)
theorem t143_38 : rn 143 38 (a0 :: a1 :: a2 :: some (.int x) :: l) r M = rn 143 41 (a0 :: a1 :: a2 :: some (.int (x + 1)) :: l) r M := r_iinc (by decide +kernel : decode (mB 143) 38 = .ok (.iinc 3 1, 3)) rfl
theorem t143_41 : rn 143 41 ls r M = rn 143 4 ls r M := r_goto (o := (-37)) (by decide +kernel : decode (mB 143) 41 = .ok (.goto (-37), 3)) (by decide)
theorem t143_44 : rn 143 44 (a0 :: a1 :: some (.int x) :: l) r M = rn 143 45 (a0 :: a1 :: some (.int x) :: l) (.int x :: r) M := r_iload_n (by decide +kernel : decode (mB 143) 44 = .ok (.iload_n 2, 1)) rfl
theorem t143_45 : rn 143 45 ls [.int x] M = some (some (.int x), M) := r_ireturn (by decide +kernel : decode (mB 143) 45 = .ok (.ireturn, 1)) rfl
-- 144 DRModel_replay()I
theorem t144_0 : rn 144 0 (some (.ref a) :: l) r M = rn 144 1 (some (.ref a) :: l) (.ref a :: r) M := r_aload_n (by decide +kernel : decode (mB 144) 0 = .ok (.aload_n 0, 1)) rfl
theorem t144_1 : rn 144 1 ls [.ref a] M = if mK M a = (19, 0) then cbn (cl 106 [.ref a] M) 144 4 ls [] else none := r_callV (kd := 0) (by decide +kernel : decode (mB 144) 1 = .ok (.invokevirtual 133, 3)) (by decide +kernel) ((doV_n np_106).trans rfl)
theorem t144_4 : rn 144 4 (some (.ref a) :: l) r M = rn 144 5 (some (.ref a) :: l) (.ref a :: r) M := r_aload_n (by decide +kernel : decode (mB 144) 4 = .ok (.aload_n 0, 1)) rfl
theorem t144_5 : rn 144 5 ls [.ref a] M = if mK M a = (19, 0) then cbn (cl 145 [.ref a] M) 144 8 ls [] else none := r_callV (kd := 0) (by decide +kernel : decode (mB 144) 5 = .ok (.invokevirtual 164, 3)) (by decide +kernel) ((doV_n np_145).trans rfl)
theorem t144_8 : rn 144 8 ls [.int x] M = some (some (.int x), M) := r_ireturn (by decide +kernel : decode (mB 144) 8 = .ok (.ireturn, 1)) rfl
-- 145 DRModel_replays()I
theorem t145_0 : rn 145 0 ls r M = rn 145 1 ls (.int 0 :: r) M := r_nx (by decide +kernel : decode (mB 145) 0 = .ok (.iconst 0, 1)) rfl rfl
theorem t145_1 : rn 145 1 (a0 :: a1 :: l) (.int x :: r) M = rn 145 2 (a0 :: some (.int x) :: l) r M := r_istore_n (by decide +kernel : decode (mB 145) 1 = .ok (.istore_n 1, 1)) (Nat.le_add_left 2 l.length)
theorem t145_2 : rn 145 2 (some (.ref a) :: l) r M = rn 145 3 (some (.ref a) :: l) (.ref a :: r) M := r_aload_n (by decide +kernel : decode (mB 145) 2 = .ok (.aload_n 0, 1)) rfl
theorem t145_3 : rn 145 3 ls [.ref a] M = if mK M a = (19, 0) then cbn (cl 137 [.ref a] M) 145 6 ls [] else none := r_callV (kd := 0) (by decide +kernel : decode (mB 145) 3 = .ok (.invokevirtual 112, 3)) (by decide +kernel) ((doV_n np_137).trans rfl)
theorem t145_6 : rn 145 6 ls r M = rn 145 7 ls (.long 0 :: r) M := r_nx (by decide +kernel : decode (mB 145) 6 = .ok (.lconst 0, 1)) rfl rfl
theorem t145_7 : rn 145 7 ls (.long v :: .long u :: r) M = rn 145 8 ls (.int (lg_cmp u v) :: r) M := r_nx (by decide +kernel : decode (mB 145) 7 = .ok (.lcmp, 1)) rfl rfl
theorem t145_8 : rn 145 8 ls (.int x :: r) M = if x = 0 then rn 145 22 ls r M else rn 145 11 ls r M := r_if (o := 14) (r := r) (c := x = 0) (by decide +kernel : decode (mB 145) 8 = .ok (.ifCond .eq 14, 3)) rfl (by decide) rfl
theorem t145_11 : rn 145 11 (some (.ref a) :: l) r M = rn 145 12 (some (.ref a) :: l) (.ref a :: r) M := r_aload_n (by decide +kernel : decode (mB 145) 11 = .ok (.aload_n 0, 1)) rfl
theorem t145_12 : rn 145 12 ls [.ref a] M = if mK M a = (19, 0) then cbn (cl 136 [.ref a] M) 145 15 ls [] else none := r_callV (kd := 0) (by decide +kernel : decode (mB 145) 12 = .ok (.invokevirtual 122, 3)) (by decide +kernel) ((doV_n np_136).trans rfl)
theorem t145_15 : rn 145 15 ls (.int x :: r) M = rn 145 16 ls r M := r_nx (by decide +kernel : decode (mB 145) 15 = .ok (.pop, 1)) rfl rfl
theorem t145_16 : rn 145 16 (a0 :: some (.int x) :: l) r M = rn 145 19 (a0 :: some (.int (x + 1)) :: l) r M := r_iinc (by decide +kernel : decode (mB 145) 16 = .ok (.iinc 1 1, 3)) rfl
theorem t145_19 : rn 145 19 ls r M = rn 145 2 ls r M := r_goto (o := (-17)) (by decide +kernel : decode (mB 145) 19 = .ok (.goto (-17), 3)) (by decide)
theorem t145_22 : rn 145 22 (a0 :: some (.int x) :: l) r M = rn 145 23 (a0 :: some (.int x) :: l) (.int x :: r) M := r_iload_n (by decide +kernel : decode (mB 145) 22 = .ok (.iload_n 1, 1)) rfl
theorem t145_23 : rn 145 23 ls [.int x] M = some (some (.int x), M) := r_ireturn (by decide +kernel : decode (mB 145) 23 = .ok (.ireturn, 1)) rfl
-- 146 DRModel_ofEntry(II)I
theorem t146_0 : rn 146 0 (some (.ref a) :: l) r M = rn 146 1 (some (.ref a) :: l) (.ref a :: r) M := r_aload_n (by decide +kernel : decode (mB 146) 0 = .ok (.aload_n 0, 1)) rfl
theorem t146_1 : rn 146 1 (a0 :: some (.int x) :: l) r M = rn 146 2 (a0 :: some (.int x) :: l) (.int x :: r) M := r_iload_n (by decide +kernel : decode (mB 146) 1 = .ok (.iload_n 1, 1)) rfl
theorem t146_2 : rn 146 2 ls [.int x, .ref a] M = if mK M a = (19, 0) then cbn (cl 121 [.ref a, .int x] M) 146 5 ls [] else none := r_callV (kd := 0) (by decide +kernel : decode (mB 146) 2 = .ok (.invokevirtual 139, 3)) (by decide +kernel) ((doV_n np_121).trans rfl)
theorem t146_5 : rn 146 5 ls (.int x :: r) M = if ¬ x = 0 then rn 146 10 ls r M else rn 146 8 ls r M := r_if (o := 5) (r := r) (c := ¬ x = 0) (by decide +kernel : decode (mB 146) 5 = .ok (.ifCond .ne 5, 3)) rfl (by decide) rfl
theorem t146_8 : rn 146 8 ls r M = rn 146 9 ls (.int (-1) :: r) M := r_nx (by decide +kernel : decode (mB 146) 8 = .ok (.iconst (-1), 1)) rfl rfl
theorem t146_9 : rn 146 9 ls [.int x] M = some (some (.int x), M) := r_ireturn (by decide +kernel : decode (mB 146) 9 = .ok (.ireturn, 1)) rfl
theorem t146_10 : rn 146 10 (a0 :: a1 :: some (.int x) :: l) r M = rn 146 11 (a0 :: a1 :: some (.int x) :: l) (.int x :: r) M := r_iload_n (by decide +kernel : decode (mB 146) 10 = .ok (.iload_n 2, 1)) rfl
theorem t146_11 : rn 146 11 ls (.int x :: r) M = if x = 0 then rn 146 60 ls r M else if x = 1 then rn 146 60 ls r M else if x = 2 then rn 146 60 ls r M else if x = 3 then rn 146 60 ls r M else if x = 4 then rn 146 67 ls r M else if x = 5 then rn 146 81 ls r M else if x = 6 then rn 146 88 ls r M else if x = 7 then rn 146 95 ls r M else if x = 8 then rn 146 104 ls r M else rn 146 110 ls r M := by
  have D := (by decide +kernel : decode (mB 146) 11 = .ok (.tableswitch 99 0 8 #[49, 49, 49, 49, 56, 70, 77, 84, 93], 49))
  by_cases h0 : x = 0
  · rw [h0, r_tab D]; rfl
  by_cases h1 : x = 1
  · rw [h1, r_tab D]; rfl
  by_cases h2 : x = 2
  · rw [h2, r_tab D]; rfl
  by_cases h3 : x = 3
  · rw [h3, r_tab D]; rfl
  by_cases h4 : x = 4
  · rw [h4, r_tab D]; rfl
  by_cases h5 : x = 5
  · rw [h5, r_tab D]; rfl
  by_cases h6 : x = 6
  · rw [h6, r_tab D]; rfl
  by_cases h7 : x = 7
  · rw [h7, r_tab D]; rfl
  by_cases h8 : x = 8
  · rw [h8, r_tab D]; rfl
  rw [r_tabO D (by have e0 : x.toInt ≠ 0 := ti_ne h0; have e1 : x.toInt ≠ 1 := ti_ne h1; have e2 : x.toInt ≠ 2 := ti_ne h2; have e3 : x.toInt ≠ 3 := ti_ne h3; have e4 : x.toInt ≠ 4 := ti_ne h4; have e5 : x.toInt ≠ 5 := ti_ne h5; have e6 : x.toInt ≠ 6 := ti_ne h6; have e7 : x.toInt ≠ 7 := ti_ne h7; have e8 : x.toInt ≠ 8 := ti_ne h8; omega) (by decide), if_neg h0, if_neg h1, if_neg h2, if_neg h3, if_neg h4, if_neg h5, if_neg h6, if_neg h7, if_neg h8]
  rfl
theorem t146_60 : rn 146 60 (some (.ref a) :: l) r M = rn 146 61 (some (.ref a) :: l) (.ref a :: r) M := r_aload_n (by decide +kernel : decode (mB 146) 60 = .ok (.aload_n 0, 1)) rfl
theorem t146_61 : rn 146 61 (a0 :: some (.int x) :: l) r M = rn 146 62 (a0 :: some (.int x) :: l) (.int x :: r) M := r_iload_n (by decide +kernel : decode (mB 146) 61 = .ok (.iload_n 1, 1)) rfl
theorem t146_62 : rn 146 62 (a0 :: a1 :: some (.int x) :: l) r M = rn 146 63 (a0 :: a1 :: some (.int x) :: l) (.int x :: r) M := r_iload_n (by decide +kernel : decode (mB 146) 62 = .ok (.iload_n 2, 1)) rfl
theorem t146_63 : rn 146 63 ls [.int x, .int y, .ref a] M = if mK M a = (19, 0) then cbn (cl 111 [.ref a, .int y, .int x] M) 146 66 ls [] else none := r_callV (kd := 0) (by decide +kernel : decode (mB 146) 63 = .ok (.invokevirtual 53, 3)) (by decide +kernel) ((doV_n np_111).trans rfl)
theorem t146_66 : rn 146 66 ls [.int x] M = some (some (.int x), M) := r_ireturn (by decide +kernel : decode (mB 146) 66 = .ok (.ireturn, 1)) rfl
theorem t146_67 : rn 146 67 (some (.ref a) :: l) r M = rn 146 68 (some (.ref a) :: l) (.ref a :: r) M := r_aload_n (by decide +kernel : decode (mB 146) 67 = .ok (.aload_n 0, 1)) rfl
theorem t146_68 : rn 146 68 (some (.ref a) :: l) r M = rn 146 69 (some (.ref a) :: l) (.ref a :: r) M := r_aload_n (by decide +kernel : decode (mB 146) 68 = .ok (.aload_n 0, 1)) rfl
theorem t146_69 : rn 146 69 ls [.ref a, .ref b] M = if mK M a = (19, 0) then cbn (cl 129 [.ref a] M) 146 72 ls [.ref b] else none := r_callV (kd := 0) (by decide +kernel : decode (mB 146) 69 = .ok (.invokevirtual 151, 3)) (by decide +kernel) ((doV_n np_129).trans rfl)
theorem t146_72 : rn 146 72 ls [.long u, .ref a] M = if mK M a = (19, 0) then cbn (cl 130 [.ref a, .long u] M) 146 75 ls [] else none := r_callV (kd := 0) (by decide +kernel : decode (mB 146) 72 = .ok (.invokevirtual 154, 3)) (by decide +kernel) ((doV_n np_130).trans rfl)
theorem t146_75 : rn 146 75 (a0 :: some (.int x) :: l) r M = rn 146 76 (a0 :: some (.int x) :: l) (.int x :: r) M := r_iload_n (by decide +kernel : decode (mB 146) 75 = .ok (.iload_n 1, 1)) rfl
theorem t146_76 : rn 146 76 ls (.int y :: .long u :: r) M = rn 146 77 ls (.long (u >>> (y.toInt64 &&& 63)) :: r) M := r_nx (by decide +kernel : decode (mB 146) 76 = .ok (.lshr, 1)) rfl rfl
theorem t146_77 : rn 146 77 ls r M = rn 146 78 ls (.long 1 :: r) M := r_nx (by decide +kernel : decode (mB 146) 77 = .ok (.lconst 1, 1)) rfl rfl
theorem t146_78 : rn 146 78 ls (.long v :: .long u :: r) M = rn 146 79 ls (.long (u &&& v) :: r) M := r_nx (by decide +kernel : decode (mB 146) 78 = .ok (.land, 1)) rfl rfl
theorem t146_79 : rn 146 79 ls (.long u :: r) M = rn 146 80 ls (.int u.toInt32 :: r) M := r_nx (by decide +kernel : decode (mB 146) 79 = .ok (.l2i, 1)) rfl rfl
theorem t146_80 : rn 146 80 ls [.int x] M = some (some (.int x), M) := r_ireturn (by decide +kernel : decode (mB 146) 80 = .ok (.ireturn, 1)) rfl
theorem t146_81 : rn 146 81 (some (.ref a) :: l) r M = rn 146 82 (some (.ref a) :: l) (.ref a :: r) M := r_aload_n (by decide +kernel : decode (mB 146) 81 = .ok (.aload_n 0, 1)) rfl
theorem t146_82 : rn 146 82 (a0 :: some (.int x) :: l) r M = rn 146 83 (a0 :: some (.int x) :: l) (.int x :: r) M := r_iload_n (by decide +kernel : decode (mB 146) 82 = .ok (.iload_n 1, 1)) rfl
theorem t146_83 : rn 146 83 ls r M = rn 146 84 ls (.int 4 :: r) M := r_nx (by decide +kernel : decode (mB 146) 83 = .ok (.iconst 4, 1)) rfl rfl
theorem t146_84 : rn 146 84 ls [.int x, .int y, .ref a] M = if mK M a = (19, 0) then cbn (cl 111 [.ref a, .int y, .int x] M) 146 87 ls [] else none := r_callV (kd := 0) (by decide +kernel : decode (mB 146) 84 = .ok (.invokevirtual 53, 3)) (by decide +kernel) ((doV_n np_111).trans rfl)
theorem t146_87 : rn 146 87 ls [.int x] M = some (some (.int x), M) := r_ireturn (by decide +kernel : decode (mB 146) 87 = .ok (.ireturn, 1)) rfl
theorem t146_88 : rn 146 88 (some (.ref a) :: l) r M = rn 146 89 (some (.ref a) :: l) (.ref a :: r) M := r_aload_n (by decide +kernel : decode (mB 146) 88 = .ok (.aload_n 0, 1)) rfl
theorem t146_89 : rn 146 89 (a0 :: some (.int x) :: l) r M = rn 146 90 (a0 :: some (.int x) :: l) (.int x :: r) M := r_iload_n (by decide +kernel : decode (mB 146) 89 = .ok (.iload_n 1, 1)) rfl
theorem t146_90 : rn 146 90 ls r M = rn 146 91 ls (.int 5 :: r) M := r_nx (by decide +kernel : decode (mB 146) 90 = .ok (.iconst 5, 1)) rfl rfl
theorem t146_91 : rn 146 91 ls [.int x, .int y, .ref a] M = if mK M a = (19, 0) then cbn (cl 111 [.ref a, .int y, .int x] M) 146 94 ls [] else none := r_callV (kd := 0) (by decide +kernel : decode (mB 146) 91 = .ok (.invokevirtual 53, 3)) (by decide +kernel) ((doV_n np_111).trans rfl)
theorem t146_94 : rn 146 94 ls [.int x] M = some (some (.int x), M) := r_ireturn (by decide +kernel : decode (mB 146) 94 = .ok (.ireturn, 1)) rfl
theorem t146_95 : rn 146 95 (some (.ref a) :: l) r M = rn 146 96 (some (.ref a) :: l) (.ref a :: r) M := r_aload_n (by decide +kernel : decode (mB 146) 95 = .ok (.aload_n 0, 1)) rfl
theorem t146_96 : rn 146 96 (a0 :: some (.int x) :: l) r M = rn 146 97 (a0 :: some (.int x) :: l) (.int x :: r) M := r_iload_n (by decide +kernel : decode (mB 146) 96 = .ok (.iload_n 1, 1)) rfl
theorem t146_97 : rn 146 97 ls [.int x, .ref a] M = if mK M a = (19, 0) then cbn (cl 124 [.ref a, .int x] M) 146 100 ls [] else none := r_callV (kd := 0) (by decide +kernel : decode (mB 146) 97 = .ok (.invokevirtual 78, 3)) (by decide +kernel) ((doV_n np_124).trans rfl)
theorem t146_100 : rn 146 100 ls [.long u] M = cbn (cl 125 [.long u] M) 146 103 ls [] := r_callS (kd := 2) (by decide +kernel : decode (mB 146) 100 = .ok (.invokestatic 118, 3)) (by decide +kernel) (by decide +kernel) ((doS_n np_125).trans rfl)
theorem t146_103 : rn 146 103 ls [.int x] M = some (some (.int x), M) := r_ireturn (by decide +kernel : decode (mB 146) 103 = .ok (.ireturn, 1)) rfl
theorem t146_104 : rn 146 104 (some (.ref a) :: l) r M = rn 146 105 (some (.ref a) :: l) (.ref a :: r) M := r_aload_n (by decide +kernel : decode (mB 146) 104 = .ok (.aload_n 0, 1)) rfl
theorem t146_105 : rn 146 105 (a0 :: some (.int x) :: l) r M = rn 146 106 (a0 :: some (.int x) :: l) (.int x :: r) M := r_iload_n (by decide +kernel : decode (mB 146) 105 = .ok (.iload_n 1, 1)) rfl
theorem t146_106 : rn 146 106 ls [.int x, .ref a] M = if mK M a = (19, 0) then cbn (cl 147 [.ref a, .int x] M) 146 109 ls [] else none := r_callV (kd := 0) (by decide +kernel : decode (mB 146) 106 = .ok (.invokevirtual 167, 3)) (by decide +kernel) ((doV_n np_147).trans rfl)
theorem t146_109 : rn 146 109 ls [.int x] M = some (some (.int x), M) := r_ireturn (by decide +kernel : decode (mB 146) 109 = .ok (.ireturn, 1)) rfl
theorem t146_110 : rn 146 110 ls r M = rn 146 112 ls (.int (-2) :: r) M := r_nx (by decide +kernel : decode (mB 146) 110 = .ok (.bipush (-2), 2)) rfl rfl
theorem t146_112 : rn 146 112 ls [.int x] M = some (some (.int x), M) := r_ireturn (by decide +kernel : decode (mB 146) 112 = .ok (.ireturn, 1)) rfl
-- 147 DRModel_leanOn(I)I
theorem t147_0 : rn 147 0 (some (.ref a) :: l) r M = rn 147 1 (some (.ref a) :: l) (.ref a :: r) M := r_aload_n (by decide +kernel : decode (mB 147) 0 = .ok (.aload_n 0, 1)) rfl
theorem t147_1 : rn 147 1 ls [.ref a] M = if mK M a = (19, 0) then cbn (cl 131 [.ref a] M) 147 4 ls [] else none := r_callV (kd := 0) (by decide +kernel : decode (mB 147) 1 = .ok (.invokevirtual 82, 3)) (by decide +kernel) ((doV_n np_131).trans rfl)
theorem t147_4 : rn 147 4 ls r M = rn 147 5 ls (.int 0 :: r) M := r_nx (by decide +kernel : decode (mB 147) 4 = .ok (.iconst 0, 1)) rfl rfl
theorem t147_5 : rn 147 5 (a0 :: a1 :: a2 :: l) (.int x :: r) M = rn 147 6 (a0 :: a1 :: some (.int x) :: l) r M := r_istore_n (by decide +kernel : decode (mB 147) 5 = .ok (.istore_n 2, 1)) (Nat.le_add_left 3 l.length)
theorem t147_6 : rn 147 6 ls r M = rn 147 7 ls (.int 0 :: r) M := r_nx (by decide +kernel : decode (mB 147) 6 = .ok (.iconst 0, 1)) rfl rfl
theorem t147_7 : rn 147 7 (a0 :: a1 :: a2 :: a3 :: l) (.int x :: r) M = rn 147 8 (a0 :: a1 :: a2 :: some (.int x) :: l) r M := r_istore_n (by decide +kernel : decode (mB 147) 7 = .ok (.istore_n 3, 1)) (Nat.le_add_left 4 l.length)
theorem t147_8 : rn 147 8 (a0 :: a1 :: a2 :: some (.int x) :: l) r M = rn 147 9 (a0 :: a1 :: a2 :: some (.int x) :: l) (.int x :: r) M := r_iload_n (by decide +kernel : decode (mB 147) 8 = .ok (.iload_n 3, 1)) rfl
theorem t147_9 : rn 147 9 (some (.ref a) :: l) r M = rn 147 10 (some (.ref a) :: l) (.ref a :: r) M := r_aload_n (by decide +kernel : decode (mB 147) 9 = .ok (.aload_n 0, 1)) rfl
theorem t147_10 : rn 147 10 ls (.ref a :: r) M = if mK M a = (19, 0) then rn 147 13 ls (va_rf (mP M a 0) :: r) M else none := r_getP (ci := 9) (k := 0) (by decide +kernel : decode (mB 147) 10 = .ok (.getfield 7, 3)) (by decide +kernel) rfl
theorem t147_13 : rn 147 13 ls r M = rn 147 14 ls (.int 0 :: r) M := r_nx (by decide +kernel : decode (mB 147) 13 = .ok (.iconst 0, 1)) rfl rfl
theorem t147_14 : rn 147 14 ls (.int x :: .ref a :: r) M = if ((mK M a).1 = 1 ∨ (mK M a).1 = 5) ∧ inR x (mK M a).2 then rn 147 15 ls (.int (mI M a x.toNatClampNeg) :: r) M else none := r_cnd (by decide +kernel : decode (mB 147) 14 = .ok (.iaload, 1)) rfl rfl
theorem t147_15 : rn 147 15 ls (.int y :: .int x :: r) M = if y ≤ x then rn 147 38 ls r M else rn 147 18 ls r M := r_if (o := 23) (r := r) (c := y ≤ x) (by decide +kernel : decode (mB 147) 15 = .ok (.if_icmp .ge 23, 3)) rfl (by decide) rfl
theorem t147_18 : rn 147 18 (a0 :: a1 :: some (.int x) :: l) r M = rn 147 19 (a0 :: a1 :: some (.int x) :: l) (.int x :: r) M := r_iload_n (by decide +kernel : decode (mB 147) 18 = .ok (.iload_n 2, 1)) rfl
theorem t147_19 : rn 147 19 (some (.ref a) :: l) r M = rn 147 20 (some (.ref a) :: l) (.ref a :: r) M := r_aload_n (by decide +kernel : decode (mB 147) 19 = .ok (.aload_n 0, 1)) rfl
theorem t147_20 : rn 147 20 ls (.ref a :: r) M = if mK M a = (19, 0) then rn 147 23 ls (va_rf (mP M a 8) :: r) M else none := r_getP (ci := 9) (k := 8) (by decide +kernel : decode (mB 147) 20 = .ok (.getfield 28, 3)) (by decide +kernel) rfl
theorem t147_23 : rn 147 23 (a0 :: a1 :: a2 :: some (.int x) :: l) r M = rn 147 24 (a0 :: a1 :: a2 :: some (.int x) :: l) (.int x :: r) M := r_iload_n (by decide +kernel : decode (mB 147) 23 = .ok (.iload_n 3, 1)) rfl
theorem t147_24 : rn 147 24 ls (.int x :: .ref a :: r) M = if (mK M a).1 = 2 ∧ inR x (mK M a).2 then rn 147 25 ls (.long (mJ M a x.toNatClampNeg) :: r) M else none := r_cnd (by decide +kernel : decode (mB 147) 24 = .ok (.laload, 1)) rfl rfl
theorem t147_25 : rn 147 25 (a0 :: some (.int x) :: l) r M = rn 147 26 (a0 :: some (.int x) :: l) (.int x :: r) M := r_iload_n (by decide +kernel : decode (mB 147) 25 = .ok (.iload_n 1, 1)) rfl
theorem t147_26 : rn 147 26 ls (.int y :: .long u :: r) M = rn 147 27 ls (.long (u >>> (y.toInt64 &&& 63)) :: r) M := r_nx (by decide +kernel : decode (mB 147) 26 = .ok (.lshr, 1)) rfl rfl
theorem t147_27 : rn 147 27 ls r M = rn 147 28 ls (.long 1 :: r) M := r_nx (by decide +kernel : decode (mB 147) 27 = .ok (.lconst 1, 1)) rfl rfl
theorem t147_28 : rn 147 28 ls (.long v :: .long u :: r) M = rn 147 29 ls (.long (u &&& v) :: r) M := r_nx (by decide +kernel : decode (mB 147) 28 = .ok (.land, 1)) rfl rfl
theorem t147_29 : rn 147 29 ls (.long u :: r) M = rn 147 30 ls (.int u.toInt32 :: r) M := r_nx (by decide +kernel : decode (mB 147) 29 = .ok (.l2i, 1)) rfl rfl
theorem t147_30 : rn 147 30 ls (.int y :: .int x :: r) M = rn 147 31 ls (.int (x + y) :: r) M := r_nx (by decide +kernel : decode (mB 147) 30 = .ok (.iadd, 1)) rfl rfl
theorem t147_31 : rn 147 31 (a0 :: a1 :: a2 :: l) (.int x :: r) M = rn 147 32 (a0 :: a1 :: some (.int x) :: l) r M := r_istore_n (by decide +kernel : decode (mB 147) 31 = .ok (.istore_n 2, 1)) (Nat.le_add_left 3 l.length)
theorem t147_32 : rn 147 32 (a0 :: a1 :: a2 :: some (.int x) :: l) r M = rn 147 35 (a0 :: a1 :: a2 :: some (.int (x + 1)) :: l) r M := r_iinc (by decide +kernel : decode (mB 147) 32 = .ok (.iinc 3 1, 3)) rfl
theorem t147_35 : rn 147 35 ls r M = rn 147 8 ls r M := r_goto (o := (-27)) (by decide +kernel : decode (mB 147) 35 = .ok (.goto (-27), 3)) (by decide)
theorem t147_38 : rn 147 38 (a0 :: a1 :: some (.int x) :: l) r M = rn 147 39 (a0 :: a1 :: some (.int x) :: l) (.int x :: r) M := r_iload_n (by decide +kernel : decode (mB 147) 38 = .ok (.iload_n 2, 1)) rfl
theorem t147_39 : rn 147 39 ls [.int x] M = some (some (.int x), M) := r_ireturn (by decide +kernel : decode (mB 147) 39 = .ok (.ireturn, 1)) rfl
-- 148 DRModel_dependsOn(I)J
theorem t148_0 : rn 148 0 (some (.ref a) :: l) r M = rn 148 1 (some (.ref a) :: l) (.ref a :: r) M := r_aload_n (by decide +kernel : decode (mB 148) 0 = .ok (.aload_n 0, 1)) rfl
theorem t148_1 : rn 148 1 (a0 :: some (.int x) :: l) r M = rn 148 2 (a0 :: some (.int x) :: l) (.int x :: r) M := r_iload_n (by decide +kernel : decode (mB 148) 1 = .ok (.iload_n 1, 1)) rfl
theorem t148_2 : rn 148 2 ls [.int x, .ref a] M = if mK M a = (19, 0) then cbn (cl 121 [.ref a, .int x] M) 148 5 ls [] else none := r_callV (kd := 0) (by decide +kernel : decode (mB 148) 2 = .ok (.invokevirtual 139, 3)) (by decide +kernel) ((doV_n np_121).trans rfl)
theorem t148_5 : rn 148 5 ls (.int x :: r) M = if x = 0 then rn 148 16 ls r M else rn 148 8 ls r M := r_if (o := 11) (r := r) (c := x = 0) (by decide +kernel : decode (mB 148) 5 = .ok (.ifCond .eq 11, 3)) rfl (by decide) rfl
theorem t148_8 : rn 148 8 (some (.ref a) :: l) r M = rn 148 9 (some (.ref a) :: l) (.ref a :: r) M := r_aload_n (by decide +kernel : decode (mB 148) 8 = .ok (.aload_n 0, 1)) rfl
theorem t148_9 : rn 148 9 (a0 :: some (.int x) :: l) r M = rn 148 10 (a0 :: some (.int x) :: l) (.int x :: r) M := r_iload_n (by decide +kernel : decode (mB 148) 9 = .ok (.iload_n 1, 1)) rfl
theorem t148_10 : rn 148 10 ls [.int x, .ref a] M = if mK M a = (19, 0) then cbn (cl 124 [.ref a, .int x] M) 148 13 ls [] else none := r_callV (kd := 0) (by decide +kernel : decode (mB 148) 10 = .ok (.invokevirtual 78, 3)) (by decide +kernel) ((doV_n np_124).trans rfl)
theorem t148_13 : rn 148 13 ls r M = rn 148 19 ls r M := r_goto (o := 6) (by decide +kernel : decode (mB 148) 13 = .ok (.goto 6, 3)) (by decide)
theorem t148_16 : rn 148 16 ls r M = rn 148 19 ls (.long (-1) :: r) M := r_nx (by decide +kernel : decode (mB 148) 16 = .ok (.ldc2_w 110, 3)) rfl rfl
theorem t148_19 : rn 148 19 ls [.long u] M = some (some (.long u), M) := r_lreturn (by decide +kernel : decode (mB 148) 19 = .ok (.lreturn, 1)) rfl
-- 149 DRModel_ofFile(II)I
theorem t149_0 : rn 149 0 (a0 :: some (.int x) :: l) r M = rn 149 1 (a0 :: some (.int x) :: l) (.int x :: r) M := r_iload_n (by decide +kernel : decode (mB 149) 0 = .ok (.iload_n 1, 1)) rfl
theorem t149_1 : rn 149 1 ls [.int x] M = cbn (cl 105 [.int x] M) 149 4 ls [] := r_callS (kd := 2) (by decide +kernel : decode (mB 149) 1 = .ok (.invokestatic 126, 3)) (by decide +kernel) (by decide +kernel) ((doS_n np_105).trans rfl)
theorem t149_4 : rn 149 4 ls (.int x :: r) M = if ¬ x = 0 then rn 149 9 ls r M else rn 149 7 ls r M := r_if (o := 5) (r := r) (c := ¬ x = 0) (by decide +kernel : decode (mB 149) 4 = .ok (.ifCond .ne 5, 3)) rfl (by decide) rfl
theorem t149_7 : rn 149 7 ls r M = rn 149 8 ls (.int (-1) :: r) M := r_nx (by decide +kernel : decode (mB 149) 7 = .ok (.iconst (-1), 1)) rfl rfl
theorem t149_8 : rn 149 8 ls [.int x] M = some (some (.int x), M) := r_ireturn (by decide +kernel : decode (mB 149) 8 = .ok (.ireturn, 1)) rfl
theorem t149_9 : rn 149 9 (a0 :: a1 :: some (.int x) :: l) r M = rn 149 10 (a0 :: a1 :: some (.int x) :: l) (.int x :: r) M := r_iload_n (by decide +kernel : decode (mB 149) 9 = .ok (.iload_n 2, 1)) rfl
theorem t149_10 : rn 149 10 ls (.int x :: r) M = if x = 0 then rn 149 48 ls r M else if x = 1 then rn 149 48 ls r M else if x = 2 then rn 149 48 ls r M else if x = 3 then rn 149 55 ls r M else if x = 4 then rn 149 61 ls r M else if x = 5 then rn 149 80 ls r M else rn 149 98 ls r M := by
  have D := (by decide +kernel : decode (mB 149) 10 = .ok (.tableswitch 88 0 5 #[38, 38, 38, 45, 51, 70], 38))
  by_cases h0 : x = 0
  · rw [h0, r_tab D]; rfl
  by_cases h1 : x = 1
  · rw [h1, r_tab D]; rfl
  by_cases h2 : x = 2
  · rw [h2, r_tab D]; rfl
  by_cases h3 : x = 3
  · rw [h3, r_tab D]; rfl
  by_cases h4 : x = 4
  · rw [h4, r_tab D]; rfl
  by_cases h5 : x = 5
  · rw [h5, r_tab D]; rfl
  rw [r_tabO D (by have e0 : x.toInt ≠ 0 := ti_ne h0; have e1 : x.toInt ≠ 1 := ti_ne h1; have e2 : x.toInt ≠ 2 := ti_ne h2; have e3 : x.toInt ≠ 3 := ti_ne h3; have e4 : x.toInt ≠ 4 := ti_ne h4; have e5 : x.toInt ≠ 5 := ti_ne h5; omega) (by decide), if_neg h0, if_neg h1, if_neg h2, if_neg h3, if_neg h4, if_neg h5]
  rfl
theorem t149_48 : rn 149 48 (some (.ref a) :: l) r M = rn 149 49 (some (.ref a) :: l) (.ref a :: r) M := r_aload_n (by decide +kernel : decode (mB 149) 48 = .ok (.aload_n 0, 1)) rfl
theorem t149_49 : rn 149 49 (a0 :: some (.int x) :: l) r M = rn 149 50 (a0 :: some (.int x) :: l) (.int x :: r) M := r_iload_n (by decide +kernel : decode (mB 149) 49 = .ok (.iload_n 1, 1)) rfl
theorem t149_50 : rn 149 50 (a0 :: a1 :: some (.int x) :: l) r M = rn 149 51 (a0 :: a1 :: some (.int x) :: l) (.int x :: r) M := r_iload_n (by decide +kernel : decode (mB 149) 50 = .ok (.iload_n 2, 1)) rfl
theorem t149_51 : rn 149 51 ls [.int x, .int y, .ref a] M = if mK M a = (19, 0) then cbn (cl 141 [.ref a, .int y, .int x] M) 149 54 ls [] else none := r_callV (kd := 0) (by decide +kernel : decode (mB 149) 51 = .ok (.invokevirtual 89, 3)) (by decide +kernel) ((doV_n np_141).trans rfl)
theorem t149_54 : rn 149 54 ls [.int x] M = some (some (.int x), M) := r_ireturn (by decide +kernel : decode (mB 149) 54 = .ok (.ireturn, 1)) rfl
theorem t149_55 : rn 149 55 (some (.ref a) :: l) r M = rn 149 56 (some (.ref a) :: l) (.ref a :: r) M := r_aload_n (by decide +kernel : decode (mB 149) 55 = .ok (.aload_n 0, 1)) rfl
theorem t149_56 : rn 149 56 (a0 :: some (.int x) :: l) r M = rn 149 57 (a0 :: some (.int x) :: l) (.int x :: r) M := r_iload_n (by decide +kernel : decode (mB 149) 56 = .ok (.iload_n 1, 1)) rfl
theorem t149_57 : rn 149 57 ls [.int x, .ref a] M = if mK M a = (19, 0) then cbn (cl 143 [.ref a, .int x] M) 149 60 ls [] else none := r_callV (kd := 0) (by decide +kernel : decode (mB 149) 57 = .ok (.invokevirtual 99, 3)) (by decide +kernel) ((doV_n np_143).trans rfl)
theorem t149_60 : rn 149 60 ls [.int x] M = some (some (.int x), M) := r_ireturn (by decide +kernel : decode (mB 149) 60 = .ok (.ireturn, 1)) rfl
theorem t149_61 : rn 149 61 (some (.ref a) :: l) r M = rn 149 62 (some (.ref a) :: l) (.ref a :: r) M := r_aload_n (by decide +kernel : decode (mB 149) 61 = .ok (.aload_n 0, 1)) rfl
theorem t149_62 : rn 149 62 (a0 :: some (.int x) :: l) r M = rn 149 63 (a0 :: some (.int x) :: l) (.int x :: r) M := r_iload_n (by decide +kernel : decode (mB 149) 62 = .ok (.iload_n 1, 1)) rfl
theorem t149_63 : rn 149 63 ls [.int x, .ref a] M = if mK M a = (19, 0) then cbn (cl 140 [.ref a, .int x] M) 149 66 ls [] else none := r_callV (kd := 0) (by decide +kernel : decode (mB 149) 63 = .ok (.invokevirtual 92, 3)) (by decide +kernel) ((doV_n np_140).trans rfl)
theorem t149_66 : rn 149 66 ls (.int x :: r) M = if x = 0 then rn 149 77 ls r M else rn 149 69 ls r M := r_if (o := 11) (r := r) (c := x = 0) (by decide +kernel : decode (mB 149) 66 = .ok (.ifCond .eq 11, 3)) rfl (by decide) rfl
theorem t149_69 : rn 149 69 (some (.ref a) :: l) r M = rn 149 70 (some (.ref a) :: l) (.ref a :: r) M := r_aload_n (by decide +kernel : decode (mB 149) 69 = .ok (.aload_n 0, 1)) rfl
theorem t149_70 : rn 149 70 (a0 :: some (.int x) :: l) r M = rn 149 71 (a0 :: some (.int x) :: l) (.int x :: r) M := r_iload_n (by decide +kernel : decode (mB 149) 70 = .ok (.iload_n 1, 1)) rfl
theorem t149_71 : rn 149 71 ls [.int x, .ref a] M = if mK M a = (19, 0) then cbn (cl 150 [.ref a, .int x] M) 149 74 ls [] else none := r_callV (kd := 0) (by decide +kernel : decode (mB 149) 71 = .ok (.invokevirtual 170, 3)) (by decide +kernel) ((doV_n np_150).trans rfl)
theorem t149_74 : rn 149 74 ls r M = rn 149 79 ls r M := r_goto (o := 5) (by decide +kernel : decode (mB 149) 74 = .ok (.goto 5, 3)) (by decide)
theorem t149_77 : rn 149 77 ls r M = rn 149 79 ls (.int (-6) :: r) M := r_nx (by decide +kernel : decode (mB 149) 77 = .ok (.bipush (-6), 2)) rfl rfl
theorem t149_79 : rn 149 79 ls [.int x] M = some (some (.int x), M) := r_ireturn (by decide +kernel : decode (mB 149) 79 = .ok (.ireturn, 1)) rfl
theorem t149_80 : rn 149 80 (some (.ref a) :: l) r M = rn 149 81 (some (.ref a) :: l) (.ref a :: r) M := r_aload_n (by decide +kernel : decode (mB 149) 80 = .ok (.aload_n 0, 1)) rfl
theorem t149_81 : rn 149 81 (a0 :: some (.int x) :: l) r M = rn 149 82 (a0 :: some (.int x) :: l) (.int x :: r) M := r_iload_n (by decide +kernel : decode (mB 149) 81 = .ok (.iload_n 1, 1)) rfl
theorem t149_82 : rn 149 82 ls [.int x, .ref a] M = if mK M a = (19, 0) then cbn (cl 140 [.ref a, .int x] M) 149 85 ls [] else none := r_callV (kd := 0) (by decide +kernel : decode (mB 149) 82 = .ok (.invokevirtual 92, 3)) (by decide +kernel) ((doV_n np_140).trans rfl)
theorem t149_85 : rn 149 85 ls (.int x :: r) M = if x = 0 then rn 149 96 ls r M else rn 149 88 ls r M := r_if (o := 11) (r := r) (c := x = 0) (by decide +kernel : decode (mB 149) 85 = .ok (.ifCond .eq 11, 3)) rfl (by decide) rfl
theorem t149_88 : rn 149 88 (some (.ref a) :: l) r M = rn 149 89 (some (.ref a) :: l) (.ref a :: r) M := r_aload_n (by decide +kernel : decode (mB 149) 88 = .ok (.aload_n 0, 1)) rfl
theorem t149_89 : rn 149 89 (a0 :: some (.int x) :: l) r M = rn 149 90 (a0 :: some (.int x) :: l) (.int x :: r) M := r_iload_n (by decide +kernel : decode (mB 149) 89 = .ok (.iload_n 1, 1)) rfl
theorem t149_90 : rn 149 90 ls [.int x, .ref a] M = if mK M a = (19, 0) then cbn (cl 151 [.ref a, .int x] M) 149 93 ls [] else none := r_callV (kd := 0) (by decide +kernel : decode (mB 149) 90 = .ok (.invokevirtual 173, 3)) (by decide +kernel) ((doV_n np_151).trans rfl)
theorem t149_93 : rn 149 93 ls r M = rn 149 97 ls r M := r_goto (o := 4) (by decide +kernel : decode (mB 149) 93 = .ok (.goto 4, 3)) (by decide)
theorem t149_96 : rn 149 96 ls r M = rn 149 97 ls (.int 0 :: r) M := r_nx (by decide +kernel : decode (mB 149) 96 = .ok (.iconst 0, 1)) rfl rfl
theorem t149_97 : rn 149 97 ls [.int x] M = some (some (.int x), M) := r_ireturn (by decide +kernel : decode (mB 149) 97 = .ok (.ireturn, 1)) rfl
theorem t149_98 : rn 149 98 ls r M = rn 149 100 ls (.int (-2) :: r) M := r_nx (by decide +kernel : decode (mB 149) 98 = .ok (.bipush (-2), 2)) rfl rfl
theorem t149_100 : rn 149 100 ls [.int x] M = some (some (.int x), M) := r_ireturn (by decide +kernel : decode (mB 149) 100 = .ok (.ireturn, 1)) rfl
-- 150 DRModel_above(I)I
theorem t150_0 : rn 150 0 ls r M = rn 150 1 ls (.int (-1) :: r) M := r_nx (by decide +kernel : decode (mB 150) 0 = .ok (.iconst (-1), 1)) rfl rfl
theorem t150_1 : rn 150 1 (a0 :: a1 :: a2 :: l) (.int x :: r) M = rn 150 2 (a0 :: a1 :: some (.int x) :: l) r M := r_istore_n (by decide +kernel : decode (mB 150) 1 = .ok (.istore_n 2, 1)) (Nat.le_add_left 3 l.length)
theorem t150_2 : rn 150 2 (a0 :: some (.int x) :: l) r M = rn 150 3 (a0 :: some (.int x) :: l) (.int x :: r) M := r_iload_n (by decide +kernel : decode (mB 150) 2 = .ok (.iload_n 1, 1)) rfl
theorem t150_3 : rn 150 3 (a0 :: a1 :: a2 :: a3 :: l) (.int x :: r) M = rn 150 4 (a0 :: a1 :: a2 :: some (.int x) :: l) r M := r_istore_n (by decide +kernel : decode (mB 150) 3 = .ok (.istore_n 3, 1)) (Nat.le_add_left 4 l.length)
theorem t150_4 : rn 150 4 (a0 :: a1 :: a2 :: some (.int x) :: l) r M = rn 150 5 (a0 :: a1 :: a2 :: some (.int x) :: l) (.int x :: r) M := r_iload_n (by decide +kernel : decode (mB 150) 4 = .ok (.iload_n 3, 1)) rfl
theorem t150_5 : rn 150 5 ls r M = rn 150 7 ls (.int (-6) :: r) M := r_nx (by decide +kernel : decode (mB 150) 5 = .ok (.bipush (-6), 2)) rfl rfl
theorem t150_7 : rn 150 7 ls (.int y :: .int x :: r) M = if x = y then rn 150 23 ls r M else rn 150 10 ls r M := r_if (o := 16) (r := r) (c := x = y) (by decide +kernel : decode (mB 150) 7 = .ok (.if_icmp .eq 16, 3)) rfl (by decide) rfl
theorem t150_10 : rn 150 10 (a0 :: a1 :: some (.int x) :: l) r M = rn 150 13 (a0 :: a1 :: some (.int (x + 1)) :: l) r M := r_iinc (by decide +kernel : decode (mB 150) 10 = .ok (.iinc 2 1, 3)) rfl
theorem t150_13 : rn 150 13 (some (.ref a) :: l) r M = rn 150 14 (some (.ref a) :: l) (.ref a :: r) M := r_aload_n (by decide +kernel : decode (mB 150) 13 = .ok (.aload_n 0, 1)) rfl
theorem t150_14 : rn 150 14 (a0 :: a1 :: a2 :: some (.int x) :: l) r M = rn 150 15 (a0 :: a1 :: a2 :: some (.int x) :: l) (.int x :: r) M := r_iload_n (by decide +kernel : decode (mB 150) 14 = .ok (.iload_n 3, 1)) rfl
theorem t150_15 : rn 150 15 ls r M = rn 150 16 ls (.int 1 :: r) M := r_nx (by decide +kernel : decode (mB 150) 15 = .ok (.iconst 1, 1)) rfl rfl
theorem t150_16 : rn 150 16 ls [.int x, .int y, .ref a] M = if mK M a = (19, 0) then cbn (cl 141 [.ref a, .int y, .int x] M) 150 19 ls [] else none := r_callV (kd := 0) (by decide +kernel : decode (mB 150) 16 = .ok (.invokevirtual 89, 3)) (by decide +kernel) ((doV_n np_141).trans rfl)
theorem t150_19 : rn 150 19 (a0 :: a1 :: a2 :: a3 :: l) (.int x :: r) M = rn 150 20 (a0 :: a1 :: a2 :: some (.int x) :: l) r M := r_istore_n (by decide +kernel : decode (mB 150) 19 = .ok (.istore_n 3, 1)) (Nat.le_add_left 4 l.length)
theorem t150_20 : rn 150 20 ls r M = rn 150 4 ls r M := r_goto (o := (-16)) (by decide +kernel : decode (mB 150) 20 = .ok (.goto (-16), 3)) (by decide)
theorem t150_23 : rn 150 23 (a0 :: a1 :: some (.int x) :: l) r M = rn 150 24 (a0 :: a1 :: some (.int x) :: l) (.int x :: r) M := r_iload_n (by decide +kernel : decode (mB 150) 23 = .ok (.iload_n 2, 1)) rfl
theorem t150_24 : rn 150 24 ls [.int x] M = some (some (.int x), M) := r_ireturn (by decide +kernel : decode (mB 150) 24 = .ok (.ireturn, 1)) rfl
-- 151 DRModel_allUnder(I)I
theorem t151_0 : rn 151 0 ls r M = rn 151 1 ls (.int 0 :: r) M := r_nx (by decide +kernel : decode (mB 151) 0 = .ok (.iconst 0, 1)) rfl rfl
theorem t151_1 : rn 151 1 (a0 :: a1 :: a2 :: l) (.int x :: r) M = rn 151 2 (a0 :: a1 :: some (.int x) :: l) r M := r_istore_n (by decide +kernel : decode (mB 151) 1 = .ok (.istore_n 2, 1)) (Nat.le_add_left 3 l.length)
theorem t151_2 : rn 151 2 ls r M = rn 151 3 ls (.int 1 :: r) M := r_nx (by decide +kernel : decode (mB 151) 2 = .ok (.iconst 1, 1)) rfl rfl
theorem t151_3 : rn 151 3 (a0 :: a1 :: a2 :: a3 :: l) (.int x :: r) M = rn 151 4 (a0 :: a1 :: a2 :: some (.int x) :: l) r M := r_istore_n (by decide +kernel : decode (mB 151) 3 = .ok (.istore_n 3, 1)) (Nat.le_add_left 4 l.length)
theorem t151_4 : rn 151 4 (a0 :: a1 :: a2 :: some (.int x) :: l) r M = rn 151 5 (a0 :: a1 :: a2 :: some (.int x) :: l) (.int x :: r) M := r_iload_n (by decide +kernel : decode (mB 151) 4 = .ok (.iload_n 3, 1)) rfl
theorem t151_5 : rn 151 5 ls r M = rn 151 7 ls (.int 16 :: r) M := r_nx (by decide +kernel : decode (mB 151) 5 = .ok (.bipush 16, 2)) rfl rfl
theorem t151_7 : rn 151 7 ls (.int y :: .int x :: r) M = if y ≤ x then rn 151 46 ls r M else rn 151 10 ls r M := r_if (o := 39) (r := r) (c := y ≤ x) (by decide +kernel : decode (mB 151) 7 = .ok (.if_icmp .ge 39, 3)) rfl (by decide) rfl
theorem t151_10 : rn 151 10 (a0 :: a1 :: some (.int x) :: l) r M = rn 151 11 (a0 :: a1 :: some (.int x) :: l) (.int x :: r) M := r_iload_n (by decide +kernel : decode (mB 151) 10 = .ok (.iload_n 2, 1)) rfl
theorem t151_11 : rn 151 11 (a0 :: a1 :: a2 :: some (.int x) :: l) r M = rn 151 12 (a0 :: a1 :: a2 :: some (.int x) :: l) (.int x :: r) M := r_iload_n (by decide +kernel : decode (mB 151) 11 = .ok (.iload_n 3, 1)) rfl
theorem t151_12 : rn 151 12 (a0 :: some (.int x) :: l) r M = rn 151 13 (a0 :: some (.int x) :: l) (.int x :: r) M := r_iload_n (by decide +kernel : decode (mB 151) 12 = .ok (.iload_n 1, 1)) rfl
theorem t151_13 : rn 151 13 ls (.int y :: .int x :: r) M = if x = y then rn 151 37 ls r M else rn 151 16 ls r M := r_if (o := 24) (r := r) (c := x = y) (by decide +kernel : decode (mB 151) 13 = .ok (.if_icmp .eq 24, 3)) rfl (by decide) rfl
theorem t151_16 : rn 151 16 (some (.ref a) :: l) r M = rn 151 17 (some (.ref a) :: l) (.ref a :: r) M := r_aload_n (by decide +kernel : decode (mB 151) 16 = .ok (.aload_n 0, 1)) rfl
theorem t151_17 : rn 151 17 (a0 :: a1 :: a2 :: some (.int x) :: l) r M = rn 151 18 (a0 :: a1 :: a2 :: some (.int x) :: l) (.int x :: r) M := r_iload_n (by decide +kernel : decode (mB 151) 17 = .ok (.iload_n 3, 1)) rfl
theorem t151_18 : rn 151 18 ls [.int x, .ref a, .int y] M = if mK M a = (19, 0) then cbn (cl 140 [.ref a, .int x] M) 151 21 ls [.int y] else none := r_callV (kd := 0) (by decide +kernel : decode (mB 151) 18 = .ok (.invokevirtual 92, 3)) (by decide +kernel) ((doV_n np_140).trans rfl)
theorem t151_21 : rn 151 21 ls (.int x :: r) M = if x = 0 then rn 151 37 ls r M else rn 151 24 ls r M := r_if (o := 16) (r := r) (c := x = 0) (by decide +kernel : decode (mB 151) 21 = .ok (.ifCond .eq 16, 3)) rfl (by decide) rfl
theorem t151_24 : rn 151 24 (some (.ref a) :: l) r M = rn 151 25 (some (.ref a) :: l) (.ref a :: r) M := r_aload_n (by decide +kernel : decode (mB 151) 24 = .ok (.aload_n 0, 1)) rfl
theorem t151_25 : rn 151 25 (a0 :: a1 :: a2 :: some (.int x) :: l) r M = rn 151 26 (a0 :: a1 :: a2 :: some (.int x) :: l) (.int x :: r) M := r_iload_n (by decide +kernel : decode (mB 151) 25 = .ok (.iload_n 3, 1)) rfl
theorem t151_26 : rn 151 26 (a0 :: some (.int x) :: l) r M = rn 151 27 (a0 :: some (.int x) :: l) (.int x :: r) M := r_iload_n (by decide +kernel : decode (mB 151) 26 = .ok (.iload_n 1, 1)) rfl
theorem t151_27 : rn 151 27 ls [.int x, .int y, .ref a, .int z] M = if mK M a = (19, 0) then cbn (cl 142 [.ref a, .int y, .int x] M) 151 30 ls [.int z] else none := r_callV (kd := 0) (by decide +kernel : decode (mB 151) 27 = .ok (.invokevirtual 95, 3)) (by decide +kernel) ((doV_n np_142).trans rfl)
theorem t151_30 : rn 151 30 ls (.int x :: r) M = if x = 0 then rn 151 37 ls r M else rn 151 33 ls r M := r_if (o := 7) (r := r) (c := x = 0) (by decide +kernel : decode (mB 151) 30 = .ok (.ifCond .eq 7, 3)) rfl (by decide) rfl
theorem t151_33 : rn 151 33 ls r M = rn 151 34 ls (.int 1 :: r) M := r_nx (by decide +kernel : decode (mB 151) 33 = .ok (.iconst 1, 1)) rfl rfl
theorem t151_34 : rn 151 34 ls r M = rn 151 38 ls r M := r_goto (o := 4) (by decide +kernel : decode (mB 151) 34 = .ok (.goto 4, 3)) (by decide)
theorem t151_37 : rn 151 37 ls r M = rn 151 38 ls (.int 0 :: r) M := r_nx (by decide +kernel : decode (mB 151) 37 = .ok (.iconst 0, 1)) rfl rfl
theorem t151_38 : rn 151 38 ls (.int y :: .int x :: r) M = rn 151 39 ls (.int (x + y) :: r) M := r_nx (by decide +kernel : decode (mB 151) 38 = .ok (.iadd, 1)) rfl rfl
theorem t151_39 : rn 151 39 (a0 :: a1 :: a2 :: l) (.int x :: r) M = rn 151 40 (a0 :: a1 :: some (.int x) :: l) r M := r_istore_n (by decide +kernel : decode (mB 151) 39 = .ok (.istore_n 2, 1)) (Nat.le_add_left 3 l.length)
theorem t151_40 : rn 151 40 (a0 :: a1 :: a2 :: some (.int x) :: l) r M = rn 151 43 (a0 :: a1 :: a2 :: some (.int (x + 1)) :: l) r M := r_iinc (by decide +kernel : decode (mB 151) 40 = .ok (.iinc 3 1, 3)) rfl
theorem t151_43 : rn 151 43 ls r M = rn 151 4 ls r M := r_goto (o := (-39)) (by decide +kernel : decode (mB 151) 43 = .ok (.goto (-39), 3)) (by decide)
theorem t151_46 : rn 151 46 (a0 :: a1 :: some (.int x) :: l) r M = rn 151 47 (a0 :: a1 :: some (.int x) :: l) (.int x :: r) M := r_iload_n (by decide +kernel : decode (mB 151) 46 = .ok (.iload_n 2, 1)) rfl
theorem t151_47 : rn 151 47 ls [.int x] M = some (some (.int x), M) := r_ireturn (by decide +kernel : decode (mB 151) 47 = .ok (.ireturn, 1)) rfl
-- 152 DRModel_count(I)I
theorem t152_0 : rn 152 0 (a0 :: some (.int x) :: l) r M = rn 152 1 (a0 :: some (.int x) :: l) (.int x :: r) M := r_iload_n (by decide +kernel : decode (mB 152) 0 = .ok (.iload_n 1, 1)) rfl
theorem t152_1 : rn 152 1 ls (.int x :: r) M = if x = 0 then rn 152 56 ls r M else if x = 1 then rn 152 63 ls r M else if x = 2 then rn 152 71 ls r M else if x = 3 then rn 152 83 ls r M else if x = 4 then rn 152 91 ls r M else if x = 5 then rn 152 99 ls r M else if x = 6 then rn 152 106 ls r M else if x = 7 then rn 152 111 ls r M else if x = 8 then rn 152 116 ls r M else if x = 9 then rn 152 121 ls r M else rn 152 126 ls r M := by
  have D := (by decide +kernel : decode (mB 152) 1 = .ok (.tableswitch 125 0 9 #[55, 62, 70, 82, 90, 98, 105, 110, 115, 120], 55))
  by_cases h0 : x = 0
  · rw [h0, r_tab D]; rfl
  by_cases h1 : x = 1
  · rw [h1, r_tab D]; rfl
  by_cases h2 : x = 2
  · rw [h2, r_tab D]; rfl
  by_cases h3 : x = 3
  · rw [h3, r_tab D]; rfl
  by_cases h4 : x = 4
  · rw [h4, r_tab D]; rfl
  by_cases h5 : x = 5
  · rw [h5, r_tab D]; rfl
  by_cases h6 : x = 6
  · rw [h6, r_tab D]; rfl
  by_cases h7 : x = 7
  · rw [h7, r_tab D]; rfl
  by_cases h8 : x = 8
  · rw [h8, r_tab D]; rfl
  by_cases h9 : x = 9
  · rw [h9, r_tab D]; rfl
  rw [r_tabO D (by have e0 : x.toInt ≠ 0 := ti_ne h0; have e1 : x.toInt ≠ 1 := ti_ne h1; have e2 : x.toInt ≠ 2 := ti_ne h2; have e3 : x.toInt ≠ 3 := ti_ne h3; have e4 : x.toInt ≠ 4 := ti_ne h4; have e5 : x.toInt ≠ 5 := ti_ne h5; have e6 : x.toInt ≠ 6 := ti_ne h6; have e7 : x.toInt ≠ 7 := ti_ne h7; have e8 : x.toInt ≠ 8 := ti_ne h8; have e9 : x.toInt ≠ 9 := ti_ne h9; omega) (by decide), if_neg h0, if_neg h1, if_neg h2, if_neg h3, if_neg h4, if_neg h5, if_neg h6, if_neg h7, if_neg h8, if_neg h9]
  rfl
theorem t152_56 : rn 152 56 (some (.ref a) :: l) r M = rn 152 57 (some (.ref a) :: l) (.ref a :: r) M := r_aload_n (by decide +kernel : decode (mB 152) 56 = .ok (.aload_n 0, 1)) rfl
theorem t152_57 : rn 152 57 ls (.ref a :: r) M = if mK M a = (19, 0) then rn 152 60 ls (va_rf (mP M a 0) :: r) M else none := r_getP (ci := 9) (k := 0) (by decide +kernel : decode (mB 152) 57 = .ok (.getfield 7, 3)) (by decide +kernel) rfl
theorem t152_60 : rn 152 60 ls r M = rn 152 61 ls (.int 0 :: r) M := r_nx (by decide +kernel : decode (mB 152) 60 = .ok (.iconst 0, 1)) rfl rfl
theorem t152_61 : rn 152 61 ls (.int x :: .ref a :: r) M = if ((mK M a).1 = 1 ∨ (mK M a).1 = 5) ∧ inR x (mK M a).2 then rn 152 62 ls (.int (mI M a x.toNatClampNeg) :: r) M else none := r_cnd (by decide +kernel : decode (mB 152) 61 = .ok (.iaload, 1)) rfl rfl
theorem t152_62 : rn 152 62 ls [.int x] M = some (some (.int x), M) := r_ireturn (by decide +kernel : decode (mB 152) 62 = .ok (.ireturn, 1)) rfl
theorem t152_63 : rn 152 63 (some (.ref a) :: l) r M = rn 152 64 (some (.ref a) :: l) (.ref a :: r) M := r_aload_n (by decide +kernel : decode (mB 152) 63 = .ok (.aload_n 0, 1)) rfl
theorem t152_64 : rn 152 64 ls [.ref a] M = if mK M a = (19, 0) then cbn (cl 129 [.ref a] M) 152 67 ls [] else none := r_callV (kd := 0) (by decide +kernel : decode (mB 152) 64 = .ok (.invokevirtual 151, 3)) (by decide +kernel) ((doV_n np_129).trans rfl)
theorem t152_67 : rn 152 67 ls [.long u] M = cbn (cl 125 [.long u] M) 152 70 ls [] := r_callS (kd := 2) (by decide +kernel : decode (mB 152) 67 = .ok (.invokestatic 118, 3)) (by decide +kernel) (by decide +kernel) ((doS_n np_125).trans rfl)
theorem t152_70 : rn 152 70 ls [.int x] M = some (some (.int x), M) := r_ireturn (by decide +kernel : decode (mB 152) 70 = .ok (.ireturn, 1)) rfl
theorem t152_71 : rn 152 71 (some (.ref a) :: l) r M = rn 152 72 (some (.ref a) :: l) (.ref a :: r) M := r_aload_n (by decide +kernel : decode (mB 152) 71 = .ok (.aload_n 0, 1)) rfl
theorem t152_72 : rn 152 72 (some (.ref a) :: l) r M = rn 152 73 (some (.ref a) :: l) (.ref a :: r) M := r_aload_n (by decide +kernel : decode (mB 152) 72 = .ok (.aload_n 0, 1)) rfl
theorem t152_73 : rn 152 73 ls [.ref a, .ref b] M = if mK M a = (19, 0) then cbn (cl 129 [.ref a] M) 152 76 ls [.ref b] else none := r_callV (kd := 0) (by decide +kernel : decode (mB 152) 73 = .ok (.invokevirtual 151, 3)) (by decide +kernel) ((doV_n np_129).trans rfl)
theorem t152_76 : rn 152 76 ls [.long u, .ref a] M = if mK M a = (19, 0) then cbn (cl 130 [.ref a, .long u] M) 152 79 ls [] else none := r_callV (kd := 0) (by decide +kernel : decode (mB 152) 76 = .ok (.invokevirtual 154, 3)) (by decide +kernel) ((doV_n np_130).trans rfl)
theorem t152_79 : rn 152 79 ls [.long u] M = cbn (cl 125 [.long u] M) 152 82 ls [] := r_callS (kd := 2) (by decide +kernel : decode (mB 152) 79 = .ok (.invokestatic 118, 3)) (by decide +kernel) (by decide +kernel) ((doS_n np_125).trans rfl)
theorem t152_82 : rn 152 82 ls [.int x] M = some (some (.int x), M) := r_ireturn (by decide +kernel : decode (mB 152) 82 = .ok (.ireturn, 1)) rfl
theorem t152_83 : rn 152 83 (some (.ref a) :: l) r M = rn 152 84 (some (.ref a) :: l) (.ref a :: r) M := r_aload_n (by decide +kernel : decode (mB 152) 83 = .ok (.aload_n 0, 1)) rfl
theorem t152_84 : rn 152 84 ls [.ref a] M = if mK M a = (19, 0) then cbn (cl 134 [.ref a] M) 152 87 ls [] else none := r_callV (kd := 0) (by decide +kernel : decode (mB 152) 84 = .ok (.invokevirtual 106, 3)) (by decide +kernel) ((doV_n np_134).trans rfl)
theorem t152_87 : rn 152 87 ls [.long u] M = cbn (cl 125 [.long u] M) 152 90 ls [] := r_callS (kd := 2) (by decide +kernel : decode (mB 152) 87 = .ok (.invokestatic 118, 3)) (by decide +kernel) (by decide +kernel) ((doS_n np_125).trans rfl)
theorem t152_90 : rn 152 90 ls [.int x] M = some (some (.int x), M) := r_ireturn (by decide +kernel : decode (mB 152) 90 = .ok (.ireturn, 1)) rfl
theorem t152_91 : rn 152 91 (some (.ref a) :: l) r M = rn 152 92 (some (.ref a) :: l) (.ref a :: r) M := r_aload_n (by decide +kernel : decode (mB 152) 91 = .ok (.aload_n 0, 1)) rfl
theorem t152_92 : rn 152 92 ls [.ref a] M = if mK M a = (19, 0) then cbn (cl 153 [.ref a] M) 152 95 ls [] else none := r_callV (kd := 0) (by decide +kernel : decode (mB 152) 92 = .ok (.invokevirtual 176, 3)) (by decide +kernel) ((doV_n np_153).trans rfl)
theorem t152_95 : rn 152 95 ls [.long u] M = cbn (cl 125 [.long u] M) 152 98 ls [] := r_callS (kd := 2) (by decide +kernel : decode (mB 152) 95 = .ok (.invokestatic 118, 3)) (by decide +kernel) (by decide +kernel) ((doS_n np_125).trans rfl)
theorem t152_98 : rn 152 98 ls [.int x] M = some (some (.int x), M) := r_ireturn (by decide +kernel : decode (mB 152) 98 = .ok (.ireturn, 1)) rfl
theorem t152_99 : rn 152 99 (some (.ref a) :: l) r M = rn 152 100 (some (.ref a) :: l) (.ref a :: r) M := r_aload_n (by decide +kernel : decode (mB 152) 99 = .ok (.aload_n 0, 1)) rfl
theorem t152_100 : rn 152 100 ls (.ref a :: r) M = if mK M a = (19, 0) then rn 152 103 ls (va_rf (mP M a 0) :: r) M else none := r_getP (ci := 9) (k := 0) (by decide +kernel : decode (mB 152) 100 = .ok (.getfield 7, 3)) (by decide +kernel) rfl
theorem t152_103 : rn 152 103 ls r M = rn 152 104 ls (.int 1 :: r) M := r_nx (by decide +kernel : decode (mB 152) 103 = .ok (.iconst 1, 1)) rfl rfl
theorem t152_104 : rn 152 104 ls (.int x :: .ref a :: r) M = if ((mK M a).1 = 1 ∨ (mK M a).1 = 5) ∧ inR x (mK M a).2 then rn 152 105 ls (.int (mI M a x.toNatClampNeg) :: r) M else none := r_cnd (by decide +kernel : decode (mB 152) 104 = .ok (.iaload, 1)) rfl rfl
theorem t152_105 : rn 152 105 ls [.int x] M = some (some (.int x), M) := r_ireturn (by decide +kernel : decode (mB 152) 105 = .ok (.ireturn, 1)) rfl
theorem t152_106 : rn 152 106 (some (.ref a) :: l) r M = rn 152 107 (some (.ref a) :: l) (.ref a :: r) M := r_aload_n (by decide +kernel : decode (mB 152) 106 = .ok (.aload_n 0, 1)) rfl
theorem t152_107 : rn 152 107 ls [.ref a] M = if mK M a = (19, 0) then cbn (cl 154 [.ref a] M) 152 110 ls [] else none := r_callV (kd := 0) (by decide +kernel : decode (mB 152) 107 = .ok (.invokevirtual 179, 3)) (by decide +kernel) ((doV_n np_154).trans rfl)
theorem t152_110 : rn 152 110 ls [.int x] M = some (some (.int x), M) := r_ireturn (by decide +kernel : decode (mB 152) 110 = .ok (.ireturn, 1)) rfl
theorem t152_111 : rn 152 111 (some (.ref a) :: l) r M = rn 152 112 (some (.ref a) :: l) (.ref a :: r) M := r_aload_n (by decide +kernel : decode (mB 152) 111 = .ok (.aload_n 0, 1)) rfl
theorem t152_112 : rn 152 112 ls [.ref a] M = if mK M a = (19, 0) then cbn (cl 155 [.ref a] M) 152 115 ls [] else none := r_callV (kd := 0) (by decide +kernel : decode (mB 152) 112 = .ok (.invokevirtual 182, 3)) (by decide +kernel) ((doV_n np_155).trans rfl)
theorem t152_115 : rn 152 115 ls [.int x] M = some (some (.int x), M) := r_ireturn (by decide +kernel : decode (mB 152) 115 = .ok (.ireturn, 1)) rfl
theorem t152_116 : rn 152 116 (some (.ref a) :: l) r M = rn 152 117 (some (.ref a) :: l) (.ref a :: r) M := r_aload_n (by decide +kernel : decode (mB 152) 116 = .ok (.aload_n 0, 1)) rfl
theorem t152_117 : rn 152 117 ls (.ref a :: r) M = if mK M a = (19, 0) then rn 152 120 ls (.int (mI M a 7) :: r) M else none := r_getI (ci := 9) (k := 7) (by decide +kernel : decode (mB 152) 117 = .ok (.getfield 185, 3)) (by decide +kernel) (Or.inl rfl)
theorem t152_120 : rn 152 120 ls [.int x] M = some (some (.int x), M) := r_ireturn (by decide +kernel : decode (mB 152) 120 = .ok (.ireturn, 1)) rfl
theorem t152_121 : rn 152 121 (some (.ref a) :: l) r M = rn 152 122 (some (.ref a) :: l) (.ref a :: r) M := r_aload_n (by decide +kernel : decode (mB 152) 121 = .ok (.aload_n 0, 1)) rfl
theorem t152_122 : rn 152 122 ls (.ref a :: r) M = if mK M a = (19, 0) then rn 152 125 ls (.int (mI M a 3) :: r) M else none := r_getI (ci := 9) (k := 3) (by decide +kernel : decode (mB 152) 122 = .ok (.getfield 41, 3)) (by decide +kernel) (Or.inl rfl)
theorem t152_125 : rn 152 125 ls [.int x] M = some (some (.int x), M) := r_ireturn (by decide +kernel : decode (mB 152) 125 = .ok (.ireturn, 1)) rfl
theorem t152_126 : rn 152 126 ls r M = rn 152 128 ls (.int (-2) :: r) M := r_nx (by decide +kernel : decode (mB 152) 126 = .ok (.bipush (-2), 2)) rfl rfl
theorem t152_128 : rn 152 128 ls [.int x] M = some (some (.int x), M) := r_ireturn (by decide +kernel : decode (mB 152) 128 = .ok (.ireturn, 1)) rfl
-- 153 DRModel_refusedOnes()J
theorem t153_0 : rn 153 0 ls r M = rn 153 1 ls (.long 0 :: r) M := r_nx (by decide +kernel : decode (mB 153) 0 = .ok (.lconst 0, 1)) rfl rfl
theorem t153_1 : rn 153 1 (a0 :: a1 :: a2 :: l) (.long u :: r) M = rn 153 2 (a0 :: some (.long u) :: none :: l) r M := r_lstore_n (by decide +kernel : decode (mB 153) 1 = .ok (.lstore_n 1, 1)) (Nat.le_add_left 3 l.length)
theorem t153_2 : rn 153 2 ls r M = rn 153 3 ls (.int 0 :: r) M := r_nx (by decide +kernel : decode (mB 153) 2 = .ok (.iconst 0, 1)) rfl rfl
theorem t153_3 : rn 153 3 (a0 :: a1 :: a2 :: a3 :: l) (.int x :: r) M = rn 153 4 (a0 :: a1 :: a2 :: some (.int x) :: l) r M := r_istore_n (by decide +kernel : decode (mB 153) 3 = .ok (.istore_n 3, 1)) (Nat.le_add_left 4 l.length)
theorem t153_4 : rn 153 4 (a0 :: a1 :: a2 :: some (.int x) :: l) r M = rn 153 5 (a0 :: a1 :: a2 :: some (.int x) :: l) (.int x :: r) M := r_iload_n (by decide +kernel : decode (mB 153) 4 = .ok (.iload_n 3, 1)) rfl
theorem t153_5 : rn 153 5 (some (.ref a) :: l) r M = rn 153 6 (some (.ref a) :: l) (.ref a :: r) M := r_aload_n (by decide +kernel : decode (mB 153) 5 = .ok (.aload_n 0, 1)) rfl
theorem t153_6 : rn 153 6 ls (.ref a :: r) M = if mK M a = (19, 0) then rn 153 9 ls (va_rf (mP M a 0) :: r) M else none := r_getP (ci := 9) (k := 0) (by decide +kernel : decode (mB 153) 6 = .ok (.getfield 7, 3)) (by decide +kernel) rfl
theorem t153_9 : rn 153 9 ls r M = rn 153 10 ls (.int 0 :: r) M := r_nx (by decide +kernel : decode (mB 153) 9 = .ok (.iconst 0, 1)) rfl rfl
theorem t153_10 : rn 153 10 ls (.int x :: .ref a :: r) M = if ((mK M a).1 = 1 ∨ (mK M a).1 = 5) ∧ inR x (mK M a).2 then rn 153 11 ls (.int (mI M a x.toNatClampNeg) :: r) M else none := r_cnd (by decide +kernel : decode (mB 153) 10 = .ok (.iaload, 1)) rfl rfl
theorem t153_11 : rn 153 11 ls (.int y :: .int x :: r) M = if y ≤ x then rn 153 39 ls r M else rn 153 14 ls r M := r_if (o := 28) (r := r) (c := y ≤ x) (by decide +kernel : decode (mB 153) 11 = .ok (.if_icmp .ge 28, 3)) rfl (by decide) rfl
theorem t153_14 : rn 153 14 (a0 :: some (.long u) :: none :: l) r M = rn 153 15 (a0 :: some (.long u) :: none :: l) (.long u :: r) M := r_lload_n (by decide +kernel : decode (mB 153) 14 = .ok (.lload_n 1, 1)) rfl rfl
theorem t153_15 : rn 153 15 (some (.ref a) :: l) r M = rn 153 16 (some (.ref a) :: l) (.ref a :: r) M := r_aload_n (by decide +kernel : decode (mB 153) 15 = .ok (.aload_n 0, 1)) rfl
theorem t153_16 : rn 153 16 (a0 :: a1 :: a2 :: some (.int x) :: l) r M = rn 153 17 (a0 :: a1 :: a2 :: some (.int x) :: l) (.int x :: r) M := r_iload_n (by decide +kernel : decode (mB 153) 16 = .ok (.iload_n 3, 1)) rfl
theorem t153_17 : rn 153 17 ls r M = rn 153 18 ls (.int 5 :: r) M := r_nx (by decide +kernel : decode (mB 153) 17 = .ok (.iconst 5, 1)) rfl rfl
theorem t153_18 : rn 153 18 ls [.int x, .int y, .ref a, .long u] M = if mK M a = (19, 0) then cbn (cl 111 [.ref a, .int y, .int x] M) 153 21 ls [.long u] else none := r_callV (kd := 0) (by decide +kernel : decode (mB 153) 18 = .ok (.invokevirtual 53, 3)) (by decide +kernel) ((doV_n np_111).trans rfl)
theorem t153_21 : rn 153 21 ls (.int x :: r) M = if x ≤ 0 then rn 153 30 ls r M else rn 153 24 ls r M := r_if (o := 9) (r := r) (c := x ≤ 0) (by decide +kernel : decode (mB 153) 21 = .ok (.ifCond .le 9, 3)) rfl (by decide) rfl
theorem t153_24 : rn 153 24 ls r M = rn 153 25 ls (.long 1 :: r) M := r_nx (by decide +kernel : decode (mB 153) 24 = .ok (.lconst 1, 1)) rfl rfl
theorem t153_25 : rn 153 25 (a0 :: a1 :: a2 :: some (.int x) :: l) r M = rn 153 26 (a0 :: a1 :: a2 :: some (.int x) :: l) (.int x :: r) M := r_iload_n (by decide +kernel : decode (mB 153) 25 = .ok (.iload_n 3, 1)) rfl
theorem t153_26 : rn 153 26 ls (.int y :: .long u :: r) M = rn 153 27 ls (.long (u <<< (y.toInt64 &&& 63)) :: r) M := r_nx (by decide +kernel : decode (mB 153) 26 = .ok (.lshl, 1)) rfl rfl
theorem t153_27 : rn 153 27 ls r M = rn 153 31 ls r M := r_goto (o := 4) (by decide +kernel : decode (mB 153) 27 = .ok (.goto 4, 3)) (by decide)
theorem t153_30 : rn 153 30 ls r M = rn 153 31 ls (.long 0 :: r) M := r_nx (by decide +kernel : decode (mB 153) 30 = .ok (.lconst 0, 1)) rfl rfl
theorem t153_31 : rn 153 31 ls (.long v :: .long u :: r) M = rn 153 32 ls (.long (u ||| v) :: r) M := r_nx (by decide +kernel : decode (mB 153) 31 = .ok (.lor, 1)) rfl rfl
theorem t153_32 : rn 153 32 (a0 :: a1 :: a2 :: l) (.long u :: r) M = rn 153 33 (a0 :: some (.long u) :: none :: l) r M := r_lstore_n (by decide +kernel : decode (mB 153) 32 = .ok (.lstore_n 1, 1)) (Nat.le_add_left 3 l.length)
theorem t153_33 : rn 153 33 (a0 :: a1 :: a2 :: some (.int x) :: l) r M = rn 153 36 (a0 :: a1 :: a2 :: some (.int (x + 1)) :: l) r M := r_iinc (by decide +kernel : decode (mB 153) 33 = .ok (.iinc 3 1, 3)) rfl
theorem t153_36 : rn 153 36 ls r M = rn 153 4 ls r M := r_goto (o := (-32)) (by decide +kernel : decode (mB 153) 36 = .ok (.goto (-32), 3)) (by decide)
theorem t153_39 : rn 153 39 (a0 :: some (.long u) :: none :: l) r M = rn 153 40 (a0 :: some (.long u) :: none :: l) (.long u :: r) M := r_lload_n (by decide +kernel : decode (mB 153) 39 = .ok (.lload_n 1, 1)) rfl rfl
theorem t153_40 : rn 153 40 ls [.long u] M = some (some (.long u), M) := r_lreturn (by decide +kernel : decode (mB 153) 40 = .ok (.lreturn, 1)) rfl
-- 154 DRModel_filesThere()I
theorem t154_0 : rn 154 0 ls r M = rn 154 1 ls (.int 0 :: r) M := r_nx (by decide +kernel : decode (mB 154) 0 = .ok (.iconst 0, 1)) rfl rfl
theorem t154_1 : rn 154 1 (a0 :: a1 :: l) (.int x :: r) M = rn 154 2 (a0 :: some (.int x) :: l) r M := r_istore_n (by decide +kernel : decode (mB 154) 1 = .ok (.istore_n 1, 1)) (Nat.le_add_left 2 l.length)
theorem t154_2 : rn 154 2 ls r M = rn 154 3 ls (.int 0 :: r) M := r_nx (by decide +kernel : decode (mB 154) 2 = .ok (.iconst 0, 1)) rfl rfl
theorem t154_3 : rn 154 3 (a0 :: a1 :: a2 :: l) (.int x :: r) M = rn 154 4 (a0 :: a1 :: some (.int x) :: l) r M := r_istore_n (by decide +kernel : decode (mB 154) 3 = .ok (.istore_n 2, 1)) (Nat.le_add_left 3 l.length)
theorem t154_4 : rn 154 4 (a0 :: a1 :: some (.int x) :: l) r M = rn 154 5 (a0 :: a1 :: some (.int x) :: l) (.int x :: r) M := r_iload_n (by decide +kernel : decode (mB 154) 4 = .ok (.iload_n 2, 1)) rfl
theorem t154_5 : rn 154 5 ls r M = rn 154 7 ls (.int 16 :: r) M := r_nx (by decide +kernel : decode (mB 154) 5 = .ok (.bipush 16, 2)) rfl rfl
theorem t154_7 : rn 154 7 ls (.int y :: .int x :: r) M = if y ≤ x then rn 154 25 ls r M else rn 154 10 ls r M := r_if (o := 18) (r := r) (c := y ≤ x) (by decide +kernel : decode (mB 154) 7 = .ok (.if_icmp .ge 18, 3)) rfl (by decide) rfl
theorem t154_10 : rn 154 10 (a0 :: some (.int x) :: l) r M = rn 154 11 (a0 :: some (.int x) :: l) (.int x :: r) M := r_iload_n (by decide +kernel : decode (mB 154) 10 = .ok (.iload_n 1, 1)) rfl
theorem t154_11 : rn 154 11 (some (.ref a) :: l) r M = rn 154 12 (some (.ref a) :: l) (.ref a :: r) M := r_aload_n (by decide +kernel : decode (mB 154) 11 = .ok (.aload_n 0, 1)) rfl
theorem t154_12 : rn 154 12 (a0 :: a1 :: some (.int x) :: l) r M = rn 154 13 (a0 :: a1 :: some (.int x) :: l) (.int x :: r) M := r_iload_n (by decide +kernel : decode (mB 154) 12 = .ok (.iload_n 2, 1)) rfl
theorem t154_13 : rn 154 13 ls r M = rn 154 14 ls (.int 0 :: r) M := r_nx (by decide +kernel : decode (mB 154) 13 = .ok (.iconst 0, 1)) rfl rfl
theorem t154_14 : rn 154 14 ls [.int x, .int y, .ref a, .int z] M = if mK M a = (19, 0) then cbn (cl 141 [.ref a, .int y, .int x] M) 154 17 ls [.int z] else none := r_callV (kd := 0) (by decide +kernel : decode (mB 154) 14 = .ok (.invokevirtual 89, 3)) (by decide +kernel) ((doV_n np_141).trans rfl)
theorem t154_17 : rn 154 17 ls (.int y :: .int x :: r) M = rn 154 18 ls (.int (x + y) :: r) M := r_nx (by decide +kernel : decode (mB 154) 17 = .ok (.iadd, 1)) rfl rfl
theorem t154_18 : rn 154 18 (a0 :: a1 :: l) (.int x :: r) M = rn 154 19 (a0 :: some (.int x) :: l) r M := r_istore_n (by decide +kernel : decode (mB 154) 18 = .ok (.istore_n 1, 1)) (Nat.le_add_left 2 l.length)
theorem t154_19 : rn 154 19 (a0 :: a1 :: some (.int x) :: l) r M = rn 154 22 (a0 :: a1 :: some (.int (x + 1)) :: l) r M := r_iinc (by decide +kernel : decode (mB 154) 19 = .ok (.iinc 2 1, 3)) rfl
theorem t154_22 : rn 154 22 ls r M = rn 154 4 ls r M := r_goto (o := (-18)) (by decide +kernel : decode (mB 154) 22 = .ok (.goto (-18), 3)) (by decide)
theorem t154_25 : rn 154 25 (a0 :: some (.int x) :: l) r M = rn 154 26 (a0 :: some (.int x) :: l) (.int x :: r) M := r_iload_n (by decide +kernel : decode (mB 154) 25 = .ok (.iload_n 1, 1)) rfl
theorem t154_26 : rn 154 26 ls [.int x] M = some (some (.int x), M) := r_ireturn (by decide +kernel : decode (mB 154) 26 = .ok (.ireturn, 1)) rfl
-- 155 DRModel_widest()I
theorem t155_0 : rn 155 0 ls r M = rn 155 1 ls (.int 0 :: r) M := r_nx (by decide +kernel : decode (mB 155) 0 = .ok (.iconst 0, 1)) rfl rfl
theorem t155_1 : rn 155 1 (a0 :: a1 :: l) (.int x :: r) M = rn 155 2 (a0 :: some (.int x) :: l) r M := r_istore_n (by decide +kernel : decode (mB 155) 1 = .ok (.istore_n 1, 1)) (Nat.le_add_left 2 l.length)
theorem t155_2 : rn 155 2 ls r M = rn 155 3 ls (.int 0 :: r) M := r_nx (by decide +kernel : decode (mB 155) 2 = .ok (.iconst 0, 1)) rfl rfl
theorem t155_3 : rn 155 3 (a0 :: a1 :: a2 :: l) (.int x :: r) M = rn 155 4 (a0 :: a1 :: some (.int x) :: l) r M := r_istore_n (by decide +kernel : decode (mB 155) 3 = .ok (.istore_n 2, 1)) (Nat.le_add_left 3 l.length)
theorem t155_4 : rn 155 4 (a0 :: a1 :: some (.int x) :: l) r M = rn 155 5 (a0 :: a1 :: some (.int x) :: l) (.int x :: r) M := r_iload_n (by decide +kernel : decode (mB 155) 4 = .ok (.iload_n 2, 1)) rfl
theorem t155_5 : rn 155 5 (some (.ref a) :: l) r M = rn 155 6 (some (.ref a) :: l) (.ref a :: r) M := r_aload_n (by decide +kernel : decode (mB 155) 5 = .ok (.aload_n 0, 1)) rfl
theorem t155_6 : rn 155 6 ls (.ref a :: r) M = if mK M a = (19, 0) then rn 155 9 ls (va_rf (mP M a 0) :: r) M else none := r_getP (ci := 9) (k := 0) (by decide +kernel : decode (mB 155) 6 = .ok (.getfield 7, 3)) (by decide +kernel) rfl
theorem t155_9 : rn 155 9 ls r M = rn 155 10 ls (.int 1 :: r) M := r_nx (by decide +kernel : decode (mB 155) 9 = .ok (.iconst 1, 1)) rfl rfl
theorem t155_10 : rn 155 10 ls (.int x :: .ref a :: r) M = if ((mK M a).1 = 1 ∨ (mK M a).1 = 5) ∧ inR x (mK M a).2 then rn 155 11 ls (.int (mI M a x.toNatClampNeg) :: r) M else none := r_cnd (by decide +kernel : decode (mB 155) 10 = .ok (.iaload, 1)) rfl rfl
theorem t155_11 : rn 155 11 ls (.int y :: .int x :: r) M = if y ≤ x then rn 155 72 ls r M else rn 155 14 ls r M := r_if (o := 61) (r := r) (c := y ≤ x) (by decide +kernel : decode (mB 155) 11 = .ok (.if_icmp .ge 61, 3)) rfl (by decide) rfl
theorem t155_14 : rn 155 14 ls r M = rn 155 15 ls (.int 0 :: r) M := r_nx (by decide +kernel : decode (mB 155) 14 = .ok (.iconst 0, 1)) rfl rfl
theorem t155_15 : rn 155 15 (a0 :: a1 :: a2 :: a3 :: l) (.int x :: r) M = rn 155 16 (a0 :: a1 :: a2 :: some (.int x) :: l) r M := r_istore_n (by decide +kernel : decode (mB 155) 15 = .ok (.istore_n 3, 1)) (Nat.le_add_left 4 l.length)
theorem t155_16 : rn 155 16 ls r M = rn 155 17 ls (.int 0 :: r) M := r_nx (by decide +kernel : decode (mB 155) 16 = .ok (.iconst 0, 1)) rfl rfl
theorem t155_17 : rn 155 17 (a0 :: a1 :: a2 :: a3 :: a4 :: l) (.int x :: r) M = rn 155 19 (a0 :: a1 :: a2 :: a3 :: some (.int x) :: l) r M := r_istore (by decide +kernel : decode (mB 155) 17 = .ok (.istore 4, 2)) (Nat.le_add_left 5 l.length)
theorem t155_19 : rn 155 19 (a0 :: a1 :: a2 :: a3 :: some (.int x) :: l) r M = rn 155 21 (a0 :: a1 :: a2 :: a3 :: some (.int x) :: l) (.int x :: r) M := r_iload (by decide +kernel : decode (mB 155) 19 = .ok (.iload 4, 2)) rfl
theorem t155_21 : rn 155 21 (some (.ref a) :: l) r M = rn 155 22 (some (.ref a) :: l) (.ref a :: r) M := r_aload_n (by decide +kernel : decode (mB 155) 21 = .ok (.aload_n 0, 1)) rfl
theorem t155_22 : rn 155 22 ls (.ref a :: r) M = if mK M a = (19, 0) then rn 155 25 ls (va_rf (mP M a 0) :: r) M else none := r_getP (ci := 9) (k := 0) (by decide +kernel : decode (mB 155) 22 = .ok (.getfield 7, 3)) (by decide +kernel) rfl
theorem t155_25 : rn 155 25 ls r M = rn 155 26 ls (.int 0 :: r) M := r_nx (by decide +kernel : decode (mB 155) 25 = .ok (.iconst 0, 1)) rfl rfl
theorem t155_26 : rn 155 26 ls (.int x :: .ref a :: r) M = if ((mK M a).1 = 1 ∨ (mK M a).1 = 5) ∧ inR x (mK M a).2 then rn 155 27 ls (.int (mI M a x.toNatClampNeg) :: r) M else none := r_cnd (by decide +kernel : decode (mB 155) 26 = .ok (.iaload, 1)) rfl rfl
theorem t155_27 : rn 155 27 ls (.int y :: .int x :: r) M = if y ≤ x then rn 155 55 ls r M else rn 155 30 ls r M := r_if (o := 28) (r := r) (c := y ≤ x) (by decide +kernel : decode (mB 155) 27 = .ok (.if_icmp .ge 28, 3)) rfl (by decide) rfl
theorem t155_30 : rn 155 30 (a0 :: a1 :: a2 :: some (.int x) :: l) r M = rn 155 31 (a0 :: a1 :: a2 :: some (.int x) :: l) (.int x :: r) M := r_iload_n (by decide +kernel : decode (mB 155) 30 = .ok (.iload_n 3, 1)) rfl
theorem t155_31 : rn 155 31 (some (.ref a) :: l) r M = rn 155 32 (some (.ref a) :: l) (.ref a :: r) M := r_aload_n (by decide +kernel : decode (mB 155) 31 = .ok (.aload_n 0, 1)) rfl
theorem t155_32 : rn 155 32 (a0 :: a1 :: a2 :: a3 :: some (.int x) :: l) r M = rn 155 34 (a0 :: a1 :: a2 :: a3 :: some (.int x) :: l) (.int x :: r) M := r_iload (by decide +kernel : decode (mB 155) 32 = .ok (.iload 4, 2)) rfl
theorem t155_34 : rn 155 34 ls r M = rn 155 35 ls (.int 4 :: r) M := r_nx (by decide +kernel : decode (mB 155) 34 = .ok (.iconst 4, 1)) rfl rfl
theorem t155_35 : rn 155 35 ls [.int x, .int y, .ref a, .int z] M = if mK M a = (19, 0) then cbn (cl 111 [.ref a, .int y, .int x] M) 155 38 ls [.int z] else none := r_callV (kd := 0) (by decide +kernel : decode (mB 155) 35 = .ok (.invokevirtual 53, 3)) (by decide +kernel) ((doV_n np_111).trans rfl)
theorem t155_38 : rn 155 38 (a0 :: a1 :: some (.int x) :: l) r M = rn 155 39 (a0 :: a1 :: some (.int x) :: l) (.int x :: r) M := r_iload_n (by decide +kernel : decode (mB 155) 38 = .ok (.iload_n 2, 1)) rfl
theorem t155_39 : rn 155 39 ls (.int y :: .int x :: r) M = if ¬ x = y then rn 155 46 ls r M else rn 155 42 ls r M := r_if (o := 7) (r := r) (c := ¬ x = y) (by decide +kernel : decode (mB 155) 39 = .ok (.if_icmp .ne 7, 3)) rfl (by decide) rfl
theorem t155_42 : rn 155 42 ls r M = rn 155 43 ls (.int 1 :: r) M := r_nx (by decide +kernel : decode (mB 155) 42 = .ok (.iconst 1, 1)) rfl rfl
theorem t155_43 : rn 155 43 ls r M = rn 155 47 ls r M := r_goto (o := 4) (by decide +kernel : decode (mB 155) 43 = .ok (.goto 4, 3)) (by decide)
theorem t155_46 : rn 155 46 ls r M = rn 155 47 ls (.int 0 :: r) M := r_nx (by decide +kernel : decode (mB 155) 46 = .ok (.iconst 0, 1)) rfl rfl
theorem t155_47 : rn 155 47 ls (.int y :: .int x :: r) M = rn 155 48 ls (.int (x + y) :: r) M := r_nx (by decide +kernel : decode (mB 155) 47 = .ok (.iadd, 1)) rfl rfl
theorem t155_48 : rn 155 48 (a0 :: a1 :: a2 :: a3 :: l) (.int x :: r) M = rn 155 49 (a0 :: a1 :: a2 :: some (.int x) :: l) r M := r_istore_n (by decide +kernel : decode (mB 155) 48 = .ok (.istore_n 3, 1)) (Nat.le_add_left 4 l.length)
theorem t155_49 : rn 155 49 (a0 :: a1 :: a2 :: a3 :: some (.int x) :: l) r M = rn 155 52 (a0 :: a1 :: a2 :: a3 :: some (.int (x + 1)) :: l) r M := r_iinc (by decide +kernel : decode (mB 155) 49 = .ok (.iinc 4 1, 3)) rfl
theorem t155_52 : rn 155 52 ls r M = rn 155 19 ls r M := r_goto (o := (-33)) (by decide +kernel : decode (mB 155) 52 = .ok (.goto (-33), 3)) (by decide)
theorem t155_55 : rn 155 55 (a0 :: a1 :: a2 :: some (.int x) :: l) r M = rn 155 56 (a0 :: a1 :: a2 :: some (.int x) :: l) (.int x :: r) M := r_iload_n (by decide +kernel : decode (mB 155) 55 = .ok (.iload_n 3, 1)) rfl
theorem t155_56 : rn 155 56 (a0 :: some (.int x) :: l) r M = rn 155 57 (a0 :: some (.int x) :: l) (.int x :: r) M := r_iload_n (by decide +kernel : decode (mB 155) 56 = .ok (.iload_n 1, 1)) rfl
theorem t155_57 : rn 155 57 ls (.int y :: .int x :: r) M = if x ≤ y then rn 155 64 ls r M else rn 155 60 ls r M := r_if (o := 7) (r := r) (c := x ≤ y) (by decide +kernel : decode (mB 155) 57 = .ok (.if_icmp .le 7, 3)) rfl (by decide) rfl
theorem t155_60 : rn 155 60 (a0 :: a1 :: a2 :: some (.int x) :: l) r M = rn 155 61 (a0 :: a1 :: a2 :: some (.int x) :: l) (.int x :: r) M := r_iload_n (by decide +kernel : decode (mB 155) 60 = .ok (.iload_n 3, 1)) rfl
theorem t155_61 : rn 155 61 ls r M = rn 155 65 ls r M := r_goto (o := 4) (by decide +kernel : decode (mB 155) 61 = .ok (.goto 4, 3)) (by decide)
theorem t155_64 : rn 155 64 (a0 :: some (.int x) :: l) r M = rn 155 65 (a0 :: some (.int x) :: l) (.int x :: r) M := r_iload_n (by decide +kernel : decode (mB 155) 64 = .ok (.iload_n 1, 1)) rfl
theorem t155_65 : rn 155 65 (a0 :: a1 :: l) (.int x :: r) M = rn 155 66 (a0 :: some (.int x) :: l) r M := r_istore_n (by decide +kernel : decode (mB 155) 65 = .ok (.istore_n 1, 1)) (Nat.le_add_left 2 l.length)
theorem t155_66 : rn 155 66 (a0 :: a1 :: some (.int x) :: l) r M = rn 155 69 (a0 :: a1 :: some (.int (x + 1)) :: l) r M := r_iinc (by decide +kernel : decode (mB 155) 66 = .ok (.iinc 2 1, 3)) rfl
theorem t155_69 : rn 155 69 ls r M = rn 155 4 ls r M := r_goto (o := (-65)) (by decide +kernel : decode (mB 155) 69 = .ok (.goto (-65), 3)) (by decide)
theorem t155_72 : rn 155 72 (a0 :: some (.int x) :: l) r M = rn 155 73 (a0 :: some (.int x) :: l) (.int x :: r) M := r_iload_n (by decide +kernel : decode (mB 155) 72 = .ok (.iload_n 1, 1)) rfl
theorem t155_73 : rn 155 73 ls [.int x] M = some (some (.int x), M) := r_ireturn (by decide +kernel : decode (mB 155) 73 = .ok (.ireturn, 1)) rfl
-- 156 DRModel_set(I)J
theorem t156_0 : rn 156 0 (a0 :: some (.int x) :: l) r M = rn 156 1 (a0 :: some (.int x) :: l) (.int x :: r) M := r_iload_n (by decide +kernel : decode (mB 156) 0 = .ok (.iload_n 1, 1)) rfl
theorem t156_1 : rn 156 1 ls (.int x :: r) M = if x = 0 then rn 156 36 ls r M else if x = 1 then rn 156 41 ls r M else if x = 2 then rn 156 50 ls r M else if x = 3 then rn 156 55 ls r M else if x = 4 then rn 156 60 ls r M else rn 156 65 ls r M := by
  have D := (by decide +kernel : decode (mB 156) 1 = .ok (.tableswitch 64 0 4 #[35, 40, 49, 54, 59], 35))
  by_cases h0 : x = 0
  · rw [h0, r_tab D]; rfl
  by_cases h1 : x = 1
  · rw [h1, r_tab D]; rfl
  by_cases h2 : x = 2
  · rw [h2, r_tab D]; rfl
  by_cases h3 : x = 3
  · rw [h3, r_tab D]; rfl
  by_cases h4 : x = 4
  · rw [h4, r_tab D]; rfl
  rw [r_tabO D (by have e0 : x.toInt ≠ 0 := ti_ne h0; have e1 : x.toInt ≠ 1 := ti_ne h1; have e2 : x.toInt ≠ 2 := ti_ne h2; have e3 : x.toInt ≠ 3 := ti_ne h3; have e4 : x.toInt ≠ 4 := ti_ne h4; omega) (by decide), if_neg h0, if_neg h1, if_neg h2, if_neg h3, if_neg h4]
  rfl
theorem t156_36 : rn 156 36 (some (.ref a) :: l) r M = rn 156 37 (some (.ref a) :: l) (.ref a :: r) M := r_aload_n (by decide +kernel : decode (mB 156) 36 = .ok (.aload_n 0, 1)) rfl
theorem t156_37 : rn 156 37 ls [.ref a] M = if mK M a = (19, 0) then cbn (cl 129 [.ref a] M) 156 40 ls [] else none := r_callV (kd := 0) (by decide +kernel : decode (mB 156) 37 = .ok (.invokevirtual 151, 3)) (by decide +kernel) ((doV_n np_129).trans rfl)
theorem t156_40 : rn 156 40 ls [.long u] M = some (some (.long u), M) := r_lreturn (by decide +kernel : decode (mB 156) 40 = .ok (.lreturn, 1)) rfl
theorem t156_41 : rn 156 41 (some (.ref a) :: l) r M = rn 156 42 (some (.ref a) :: l) (.ref a :: r) M := r_aload_n (by decide +kernel : decode (mB 156) 41 = .ok (.aload_n 0, 1)) rfl
theorem t156_42 : rn 156 42 (some (.ref a) :: l) r M = rn 156 43 (some (.ref a) :: l) (.ref a :: r) M := r_aload_n (by decide +kernel : decode (mB 156) 42 = .ok (.aload_n 0, 1)) rfl
theorem t156_43 : rn 156 43 ls [.ref a, .ref b] M = if mK M a = (19, 0) then cbn (cl 129 [.ref a] M) 156 46 ls [.ref b] else none := r_callV (kd := 0) (by decide +kernel : decode (mB 156) 43 = .ok (.invokevirtual 151, 3)) (by decide +kernel) ((doV_n np_129).trans rfl)
theorem t156_46 : rn 156 46 ls [.long u, .ref a] M = if mK M a = (19, 0) then cbn (cl 130 [.ref a, .long u] M) 156 49 ls [] else none := r_callV (kd := 0) (by decide +kernel : decode (mB 156) 46 = .ok (.invokevirtual 154, 3)) (by decide +kernel) ((doV_n np_130).trans rfl)
theorem t156_49 : rn 156 49 ls [.long u] M = some (some (.long u), M) := r_lreturn (by decide +kernel : decode (mB 156) 49 = .ok (.lreturn, 1)) rfl
theorem t156_50 : rn 156 50 (some (.ref a) :: l) r M = rn 156 51 (some (.ref a) :: l) (.ref a :: r) M := r_aload_n (by decide +kernel : decode (mB 156) 50 = .ok (.aload_n 0, 1)) rfl
theorem t156_51 : rn 156 51 ls [.ref a] M = if mK M a = (19, 0) then cbn (cl 134 [.ref a] M) 156 54 ls [] else none := r_callV (kd := 0) (by decide +kernel : decode (mB 156) 51 = .ok (.invokevirtual 106, 3)) (by decide +kernel) ((doV_n np_134).trans rfl)
theorem t156_54 : rn 156 54 ls [.long u] M = some (some (.long u), M) := r_lreturn (by decide +kernel : decode (mB 156) 54 = .ok (.lreturn, 1)) rfl
theorem t156_55 : rn 156 55 (some (.ref a) :: l) r M = rn 156 56 (some (.ref a) :: l) (.ref a :: r) M := r_aload_n (by decide +kernel : decode (mB 156) 55 = .ok (.aload_n 0, 1)) rfl
theorem t156_56 : rn 156 56 ls [.ref a] M = if mK M a = (19, 0) then cbn (cl 153 [.ref a] M) 156 59 ls [] else none := r_callV (kd := 0) (by decide +kernel : decode (mB 156) 56 = .ok (.invokevirtual 176, 3)) (by decide +kernel) ((doV_n np_153).trans rfl)
theorem t156_59 : rn 156 59 ls [.long u] M = some (some (.long u), M) := r_lreturn (by decide +kernel : decode (mB 156) 59 = .ok (.lreturn, 1)) rfl
theorem t156_60 : rn 156 60 (some (.ref a) :: l) r M = rn 156 61 (some (.ref a) :: l) (.ref a :: r) M := r_aload_n (by decide +kernel : decode (mB 156) 60 = .ok (.aload_n 0, 1)) rfl
theorem t156_61 : rn 156 61 ls [.ref a] M = if mK M a = (19, 0) then cbn (cl 137 [.ref a] M) 156 64 ls [] else none := r_callV (kd := 0) (by decide +kernel : decode (mB 156) 61 = .ok (.invokevirtual 112, 3)) (by decide +kernel) ((doV_n np_137).trans rfl)
theorem t156_64 : rn 156 64 ls [.long u] M = some (some (.long u), M) := r_lreturn (by decide +kernel : decode (mB 156) 64 = .ok (.lreturn, 1)) rfl
theorem t156_65 : rn 156 65 ls r M = rn 156 68 ls (.long (-2) :: r) M := r_nx (by decide +kernel : decode (mB 156) 65 = .ok (.ldc2_w 188, 3)) rfl rfl
theorem t156_68 : rn 156 68 ls [.long u] M = some (some (.long u), M) := r_lreturn (by decide +kernel : decode (mB 156) 68 = .ok (.lreturn, 1)) rfl
-- 157 DRModel_depth(I)I
theorem t157_0 : rn 157 0 (some (.ref a) :: l) r M = rn 157 1 (some (.ref a) :: l) (.ref a :: r) M := r_aload_n (by decide +kernel : decode (mB 157) 0 = .ok (.aload_n 0, 1)) rfl
theorem t157_1 : rn 157 1 (a0 :: some (.int x) :: l) r M = rn 157 2 (a0 :: some (.int x) :: l) (.int x :: r) M := r_iload_n (by decide +kernel : decode (mB 157) 1 = .ok (.iload_n 1, 1)) rfl
theorem t157_2 : rn 157 2 ls [.int x, .ref a] M = if mK M a = (19, 0) then cbn (cl 121 [.ref a, .int x] M) 157 5 ls [] else none := r_callV (kd := 0) (by decide +kernel : decode (mB 157) 2 = .ok (.invokevirtual 139, 3)) (by decide +kernel) ((doV_n np_121).trans rfl)
theorem t157_5 : rn 157 5 ls (.int x :: r) M = if ¬ x = 0 then rn 157 10 ls r M else rn 157 8 ls r M := r_if (o := 5) (r := r) (c := ¬ x = 0) (by decide +kernel : decode (mB 157) 5 = .ok (.ifCond .ne 5, 3)) rfl (by decide) rfl
theorem t157_8 : rn 157 8 ls r M = rn 157 9 ls (.int (-1) :: r) M := r_nx (by decide +kernel : decode (mB 157) 8 = .ok (.iconst (-1), 1)) rfl rfl
theorem t157_9 : rn 157 9 ls [.int x] M = some (some (.int x), M) := r_ireturn (by decide +kernel : decode (mB 157) 9 = .ok (.ireturn, 1)) rfl
theorem t157_10 : rn 157 10 (some (.ref a) :: l) r M = rn 157 11 (some (.ref a) :: l) (.ref a :: r) M := r_aload_n (by decide +kernel : decode (mB 157) 10 = .ok (.aload_n 0, 1)) rfl
theorem t157_11 : rn 157 11 ls [.ref a] M = if mK M a = (19, 0) then cbn (cl 129 [.ref a] M) 157 14 ls [] else none := r_callV (kd := 0) (by decide +kernel : decode (mB 157) 11 = .ok (.invokevirtual 151, 3)) (by decide +kernel) ((doV_n np_129).trans rfl)
theorem t157_14 : rn 157 14 (a0 :: a1 :: a2 :: a3 :: l) (.long u :: r) M = rn 157 15 (a0 :: a1 :: some (.long u) :: none :: l) r M := r_lstore_n (by decide +kernel : decode (mB 157) 14 = .ok (.lstore_n 2, 1)) (Nat.le_add_left 4 l.length)
theorem t157_15 : rn 157 15 (a0 :: a1 :: some (.long u) :: none :: l) r M = rn 157 16 (a0 :: a1 :: some (.long u) :: none :: l) (.long u :: r) M := r_lload_n (by decide +kernel : decode (mB 157) 15 = .ok (.lload_n 2, 1)) rfl rfl
theorem t157_16 : rn 157 16 (some (.ref a) :: l) r M = rn 157 17 (some (.ref a) :: l) (.ref a :: r) M := r_aload_n (by decide +kernel : decode (mB 157) 16 = .ok (.aload_n 0, 1)) rfl
theorem t157_17 : rn 157 17 (a0 :: a1 :: some (.long u) :: none :: l) r M = rn 157 18 (a0 :: a1 :: some (.long u) :: none :: l) (.long u :: r) M := r_lload_n (by decide +kernel : decode (mB 157) 17 = .ok (.lload_n 2, 1)) rfl rfl
theorem t157_18 : rn 157 18 ls [.long u, .ref a, .long v] M = if mK M a = (19, 0) then cbn (cl 130 [.ref a, .long u] M) 157 21 ls [.long v] else none := r_callV (kd := 0) (by decide +kernel : decode (mB 157) 18 = .ok (.invokevirtual 154, 3)) (by decide +kernel) ((doV_n np_130).trans rfl)
theorem t157_21 : rn 157 21 ls (.long v :: .long u :: r) M = rn 157 22 ls (.long (u ||| v) :: r) M := r_nx (by decide +kernel : decode (mB 157) 21 = .ok (.lor, 1)) rfl rfl
theorem t157_22 : rn 157 22 (a0 :: some (.int x) :: l) r M = rn 157 23 (a0 :: some (.int x) :: l) (.int x :: r) M := r_iload_n (by decide +kernel : decode (mB 157) 22 = .ok (.iload_n 1, 1)) rfl
theorem t157_23 : rn 157 23 ls (.int y :: .long u :: r) M = rn 157 24 ls (.long (u >>> (y.toInt64 &&& 63)) :: r) M := r_nx (by decide +kernel : decode (mB 157) 23 = .ok (.lshr, 1)) rfl rfl
theorem t157_24 : rn 157 24 ls r M = rn 157 25 ls (.long 1 :: r) M := r_nx (by decide +kernel : decode (mB 157) 24 = .ok (.lconst 1, 1)) rfl rfl
theorem t157_25 : rn 157 25 ls (.long v :: .long u :: r) M = rn 157 26 ls (.long (u &&& v) :: r) M := r_nx (by decide +kernel : decode (mB 157) 25 = .ok (.land, 1)) rfl rfl
theorem t157_26 : rn 157 26 ls r M = rn 157 27 ls (.long 1 :: r) M := r_nx (by decide +kernel : decode (mB 157) 26 = .ok (.lconst 1, 1)) rfl rfl
theorem t157_27 : rn 157 27 ls (.long v :: .long u :: r) M = rn 157 28 ls (.int (lg_cmp u v) :: r) M := r_nx (by decide +kernel : decode (mB 157) 27 = .ok (.lcmp, 1)) rfl rfl
theorem t157_28 : rn 157 28 ls (.int x :: r) M = if ¬ x = 0 then rn 157 34 ls r M else rn 157 31 ls r M := r_if (o := 6) (r := r) (c := ¬ x = 0) (by decide +kernel : decode (mB 157) 28 = .ok (.ifCond .ne 6, 3)) rfl (by decide) rfl
theorem t157_31 : rn 157 31 ls r M = rn 157 33 ls (.int (-6) :: r) M := r_nx (by decide +kernel : decode (mB 157) 31 = .ok (.bipush (-6), 2)) rfl rfl
theorem t157_33 : rn 157 33 ls [.int x] M = some (some (.int x), M) := r_ireturn (by decide +kernel : decode (mB 157) 33 = .ok (.ireturn, 1)) rfl
theorem t157_34 : rn 157 34 ls r M = rn 157 35 ls (.int 0 :: r) M := r_nx (by decide +kernel : decode (mB 157) 34 = .ok (.iconst 0, 1)) rfl rfl
theorem t157_35 : rn 157 35 (a0 :: a1 :: a2 :: a3 :: a4 :: l) (.int x :: r) M = rn 157 37 (a0 :: a1 :: a2 :: a3 :: some (.int x) :: l) r M := r_istore (by decide +kernel : decode (mB 157) 35 = .ok (.istore 4, 2)) (Nat.le_add_left 5 l.length)
theorem t157_37 : rn 157 37 (a0 :: a1 :: a2 :: a3 :: some (.int x) :: l) r M = rn 157 39 (a0 :: a1 :: a2 :: a3 :: some (.int x) :: l) (.int x :: r) M := r_iload (by decide +kernel : decode (mB 157) 37 = .ok (.iload 4, 2)) rfl
theorem t157_39 : rn 157 39 (a0 :: some (.int x) :: l) r M = rn 157 40 (a0 :: some (.int x) :: l) (.int x :: r) M := r_iload_n (by decide +kernel : decode (mB 157) 39 = .ok (.iload_n 1, 1)) rfl
theorem t157_40 : rn 157 40 ls (.int y :: .int x :: r) M = if y < x then rn 157 132 ls r M else rn 157 43 ls r M := r_if (o := 92) (r := r) (c := y < x) (by decide +kernel : decode (mB 157) 40 = .ok (.if_icmp .gt 92, 3)) rfl (by decide) rfl
theorem t157_43 : rn 157 43 (some (.ref a) :: l) r M = rn 157 44 (some (.ref a) :: l) (.ref a :: r) M := r_aload_n (by decide +kernel : decode (mB 157) 43 = .ok (.aload_n 0, 1)) rfl
theorem t157_44 : rn 157 44 ls (.ref a :: r) M = if mK M a = (19, 0) then rn 157 47 ls (va_rf (mP M a 9) :: r) M else none := r_getP (ci := 9) (k := 9) (by decide +kernel : decode (mB 157) 44 = .ok (.getfield 32, 3)) (by decide +kernel) rfl
theorem t157_47 : rn 157 47 (a0 :: a1 :: a2 :: a3 :: some (.int x) :: l) r M = rn 157 49 (a0 :: a1 :: a2 :: a3 :: some (.int x) :: l) (.int x :: r) M := r_iload (by decide +kernel : decode (mB 157) 47 = .ok (.iload 4, 2)) rfl
theorem t157_49 : rn 157 49 ls r M = rn 157 50 ls (.int 0 :: r) M := r_nx (by decide +kernel : decode (mB 157) 49 = .ok (.iconst 0, 1)) rfl rfl
theorem t157_50 : rn 157 50 ls (.int y :: .int x :: .ref a :: r) M = if (mK M a).1 = 1 ∧ inR x (mK M a).2 then rn 157 51 ls r (sI M a (va_up (mI M a) x.toNatClampNeg y)) else none := r_cnd (by decide +kernel : decode (mB 157) 50 = .ok (.iastore, 1)) rfl rfl
theorem t157_51 : rn 157 51 ls r M = rn 157 52 ls (.int 0 :: r) M := r_nx (by decide +kernel : decode (mB 157) 51 = .ok (.iconst 0, 1)) rfl rfl
theorem t157_52 : rn 157 52 (a0 :: a1 :: a2 :: a3 :: a4 :: a5 :: l) (.int x :: r) M = rn 157 54 (a0 :: a1 :: a2 :: a3 :: a4 :: some (.int x) :: l) r M := r_istore (by decide +kernel : decode (mB 157) 52 = .ok (.istore 5, 2)) (Nat.le_add_left 6 l.length)
theorem t157_54 : rn 157 54 (a0 :: a1 :: a2 :: a3 :: a4 :: some (.int x) :: l) r M = rn 157 56 (a0 :: a1 :: a2 :: a3 :: a4 :: some (.int x) :: l) (.int x :: r) M := r_iload (by decide +kernel : decode (mB 157) 54 = .ok (.iload 5, 2)) rfl
theorem t157_56 : rn 157 56 (a0 :: a1 :: a2 :: a3 :: some (.int x) :: l) r M = rn 157 58 (a0 :: a1 :: a2 :: a3 :: some (.int x) :: l) (.int x :: r) M := r_iload (by decide +kernel : decode (mB 157) 56 = .ok (.iload 4, 2)) rfl
theorem t157_58 : rn 157 58 ls (.int y :: .int x :: r) M = if y ≤ x then rn 157 126 ls r M else rn 157 61 ls r M := r_if (o := 68) (r := r) (c := y ≤ x) (by decide +kernel : decode (mB 157) 58 = .ok (.if_icmp .ge 68, 3)) rfl (by decide) rfl
theorem t157_61 : rn 157 61 (some (.ref a) :: l) r M = rn 157 62 (some (.ref a) :: l) (.ref a :: r) M := r_aload_n (by decide +kernel : decode (mB 157) 61 = .ok (.aload_n 0, 1)) rfl
theorem t157_62 : rn 157 62 ls (.ref a :: r) M = if mK M a = (19, 0) then rn 157 65 ls (va_rf (mP M a 9) :: r) M else none := r_getP (ci := 9) (k := 9) (by decide +kernel : decode (mB 157) 62 = .ok (.getfield 32, 3)) (by decide +kernel) rfl
theorem t157_65 : rn 157 65 (a0 :: a1 :: a2 :: a3 :: some (.int x) :: l) r M = rn 157 67 (a0 :: a1 :: a2 :: a3 :: some (.int x) :: l) (.int x :: r) M := r_iload (by decide +kernel : decode (mB 157) 65 = .ok (.iload 4, 2)) rfl
theorem t157_67 : rn 157 67 (some (.ref a) :: l) r M = rn 157 68 (some (.ref a) :: l) (.ref a :: r) M := r_aload_n (by decide +kernel : decode (mB 157) 67 = .ok (.aload_n 0, 1)) rfl
theorem t157_68 : rn 157 68 (a0 :: a1 :: a2 :: a3 :: some (.int x) :: l) r M = rn 157 70 (a0 :: a1 :: a2 :: a3 :: some (.int x) :: l) (.int x :: r) M := r_iload (by decide +kernel : decode (mB 157) 68 = .ok (.iload 4, 2)) rfl
theorem t157_70 : rn 157 70 ls [.int x, .ref a, .int y, .ref b] M = if mK M a = (19, 0) then cbn (cl 124 [.ref a, .int x] M) 157 73 ls [.int y, .ref b] else none := r_callV (kd := 0) (by decide +kernel : decode (mB 157) 70 = .ok (.invokevirtual 78, 3)) (by decide +kernel) ((doV_n np_124).trans rfl)
theorem t157_73 : rn 157 73 (a0 :: a1 :: a2 :: a3 :: a4 :: some (.int x) :: l) r M = rn 157 75 (a0 :: a1 :: a2 :: a3 :: a4 :: some (.int x) :: l) (.int x :: r) M := r_iload (by decide +kernel : decode (mB 157) 73 = .ok (.iload 5, 2)) rfl
theorem t157_75 : rn 157 75 ls (.int y :: .long u :: r) M = rn 157 76 ls (.long (u >>> (y.toInt64 &&& 63)) :: r) M := r_nx (by decide +kernel : decode (mB 157) 75 = .ok (.lshr, 1)) rfl rfl
theorem t157_76 : rn 157 76 ls r M = rn 157 77 ls (.long 1 :: r) M := r_nx (by decide +kernel : decode (mB 157) 76 = .ok (.lconst 1, 1)) rfl rfl
theorem t157_77 : rn 157 77 ls (.long v :: .long u :: r) M = rn 157 78 ls (.long (u &&& v) :: r) M := r_nx (by decide +kernel : decode (mB 157) 77 = .ok (.land, 1)) rfl rfl
theorem t157_78 : rn 157 78 ls r M = rn 157 79 ls (.long 1 :: r) M := r_nx (by decide +kernel : decode (mB 157) 78 = .ok (.lconst 1, 1)) rfl rfl
theorem t157_79 : rn 157 79 ls (.long v :: .long u :: r) M = rn 157 80 ls (.int (lg_cmp u v) :: r) M := r_nx (by decide +kernel : decode (mB 157) 79 = .ok (.lcmp, 1)) rfl rfl
theorem t157_80 : rn 157 80 ls (.int x :: r) M = if ¬ x = 0 then rn 157 112 ls r M else rn 157 83 ls r M := r_if (o := 32) (r := r) (c := ¬ x = 0) (by decide +kernel : decode (mB 157) 80 = .ok (.ifCond .ne 32, 3)) rfl (by decide) rfl
theorem t157_83 : rn 157 83 (some (.ref a) :: l) r M = rn 157 84 (some (.ref a) :: l) (.ref a :: r) M := r_aload_n (by decide +kernel : decode (mB 157) 83 = .ok (.aload_n 0, 1)) rfl
theorem t157_84 : rn 157 84 ls (.ref a :: r) M = if mK M a = (19, 0) then rn 157 87 ls (va_rf (mP M a 9) :: r) M else none := r_getP (ci := 9) (k := 9) (by decide +kernel : decode (mB 157) 84 = .ok (.getfield 32, 3)) (by decide +kernel) rfl
theorem t157_87 : rn 157 87 (a0 :: a1 :: a2 :: a3 :: a4 :: some (.int x) :: l) r M = rn 157 89 (a0 :: a1 :: a2 :: a3 :: a4 :: some (.int x) :: l) (.int x :: r) M := r_iload (by decide +kernel : decode (mB 157) 87 = .ok (.iload 5, 2)) rfl
theorem t157_89 : rn 157 89 ls (.int x :: .ref a :: r) M = if ((mK M a).1 = 1 ∨ (mK M a).1 = 5) ∧ inR x (mK M a).2 then rn 157 90 ls (.int (mI M a x.toNatClampNeg) :: r) M else none := r_cnd (by decide +kernel : decode (mB 157) 89 = .ok (.iaload, 1)) rfl rfl
theorem t157_90 : rn 157 90 (some (.ref a) :: l) r M = rn 157 91 (some (.ref a) :: l) (.ref a :: r) M := r_aload_n (by decide +kernel : decode (mB 157) 90 = .ok (.aload_n 0, 1)) rfl
theorem t157_91 : rn 157 91 ls (.ref a :: r) M = if mK M a = (19, 0) then rn 157 94 ls (va_rf (mP M a 9) :: r) M else none := r_getP (ci := 9) (k := 9) (by decide +kernel : decode (mB 157) 91 = .ok (.getfield 32, 3)) (by decide +kernel) rfl
theorem t157_94 : rn 157 94 (a0 :: a1 :: a2 :: a3 :: some (.int x) :: l) r M = rn 157 96 (a0 :: a1 :: a2 :: a3 :: some (.int x) :: l) (.int x :: r) M := r_iload (by decide +kernel : decode (mB 157) 94 = .ok (.iload 4, 2)) rfl
theorem t157_96 : rn 157 96 ls (.int x :: .ref a :: r) M = if ((mK M a).1 = 1 ∨ (mK M a).1 = 5) ∧ inR x (mK M a).2 then rn 157 97 ls (.int (mI M a x.toNatClampNeg) :: r) M else none := r_cnd (by decide +kernel : decode (mB 157) 96 = .ok (.iaload, 1)) rfl rfl
theorem t157_97 : rn 157 97 ls (.int y :: .int x :: r) M = if x < y then rn 157 112 ls r M else rn 157 100 ls r M := r_if (o := 15) (r := r) (c := x < y) (by decide +kernel : decode (mB 157) 97 = .ok (.if_icmp .lt 15, 3)) rfl (by decide) rfl
theorem t157_100 : rn 157 100 (some (.ref a) :: l) r M = rn 157 101 (some (.ref a) :: l) (.ref a :: r) M := r_aload_n (by decide +kernel : decode (mB 157) 100 = .ok (.aload_n 0, 1)) rfl
theorem t157_101 : rn 157 101 ls (.ref a :: r) M = if mK M a = (19, 0) then rn 157 104 ls (va_rf (mP M a 9) :: r) M else none := r_getP (ci := 9) (k := 9) (by decide +kernel : decode (mB 157) 101 = .ok (.getfield 32, 3)) (by decide +kernel) rfl
theorem t157_104 : rn 157 104 (a0 :: a1 :: a2 :: a3 :: a4 :: some (.int x) :: l) r M = rn 157 106 (a0 :: a1 :: a2 :: a3 :: a4 :: some (.int x) :: l) (.int x :: r) M := r_iload (by decide +kernel : decode (mB 157) 104 = .ok (.iload 5, 2)) rfl
theorem t157_106 : rn 157 106 ls (.int x :: .ref a :: r) M = if ((mK M a).1 = 1 ∨ (mK M a).1 = 5) ∧ inR x (mK M a).2 then rn 157 107 ls (.int (mI M a x.toNatClampNeg) :: r) M else none := r_cnd (by decide +kernel : decode (mB 157) 106 = .ok (.iaload, 1)) rfl rfl
theorem t157_107 : rn 157 107 ls r M = rn 157 108 ls (.int 1 :: r) M := r_nx (by decide +kernel : decode (mB 157) 107 = .ok (.iconst 1, 1)) rfl rfl
theorem t157_108 : rn 157 108 ls (.int y :: .int x :: r) M = rn 157 109 ls (.int (x + y) :: r) M := r_nx (by decide +kernel : decode (mB 157) 108 = .ok (.iadd, 1)) rfl rfl
theorem t157_109 : rn 157 109 ls r M = rn 157 119 ls r M := r_goto (o := 10) (by decide +kernel : decode (mB 157) 109 = .ok (.goto 10, 3)) (by decide)
theorem t157_112 : rn 157 112 (some (.ref a) :: l) r M = rn 157 113 (some (.ref a) :: l) (.ref a :: r) M := r_aload_n (by decide +kernel : decode (mB 157) 112 = .ok (.aload_n 0, 1)) rfl
theorem t157_113 : rn 157 113 ls (.ref a :: r) M = if mK M a = (19, 0) then rn 157 116 ls (va_rf (mP M a 9) :: r) M else none := r_getP (ci := 9) (k := 9) (by decide +kernel : decode (mB 157) 113 = .ok (.getfield 32, 3)) (by decide +kernel) rfl
theorem t157_116 : rn 157 116 (a0 :: a1 :: a2 :: a3 :: some (.int x) :: l) r M = rn 157 118 (a0 :: a1 :: a2 :: a3 :: some (.int x) :: l) (.int x :: r) M := r_iload (by decide +kernel : decode (mB 157) 116 = .ok (.iload 4, 2)) rfl
theorem t157_118 : rn 157 118 ls (.int x :: .ref a :: r) M = if ((mK M a).1 = 1 ∨ (mK M a).1 = 5) ∧ inR x (mK M a).2 then rn 157 119 ls (.int (mI M a x.toNatClampNeg) :: r) M else none := r_cnd (by decide +kernel : decode (mB 157) 118 = .ok (.iaload, 1)) rfl rfl
theorem t157_119 : rn 157 119 ls (.int y :: .int x :: .ref a :: r) M = if (mK M a).1 = 1 ∧ inR x (mK M a).2 then rn 157 120 ls r (sI M a (va_up (mI M a) x.toNatClampNeg y)) else none := r_cnd (by decide +kernel : decode (mB 157) 119 = .ok (.iastore, 1)) rfl rfl
theorem t157_120 : rn 157 120 (a0 :: a1 :: a2 :: a3 :: a4 :: some (.int x) :: l) r M = rn 157 123 (a0 :: a1 :: a2 :: a3 :: a4 :: some (.int (x + 1)) :: l) r M := r_iinc (by decide +kernel : decode (mB 157) 120 = .ok (.iinc 5 1, 3)) rfl
theorem t157_123 : rn 157 123 ls r M = rn 157 54 ls r M := r_goto (o := (-69)) (by decide +kernel : decode (mB 157) 123 = .ok (.goto (-69), 3)) (by decide)
theorem t157_126 : rn 157 126 (a0 :: a1 :: a2 :: a3 :: some (.int x) :: l) r M = rn 157 129 (a0 :: a1 :: a2 :: a3 :: some (.int (x + 1)) :: l) r M := r_iinc (by decide +kernel : decode (mB 157) 126 = .ok (.iinc 4 1, 3)) rfl
theorem t157_129 : rn 157 129 ls r M = rn 157 37 ls r M := r_goto (o := (-92)) (by decide +kernel : decode (mB 157) 129 = .ok (.goto (-92), 3)) (by decide)
theorem t157_132 : rn 157 132 (some (.ref a) :: l) r M = rn 157 133 (some (.ref a) :: l) (.ref a :: r) M := r_aload_n (by decide +kernel : decode (mB 157) 132 = .ok (.aload_n 0, 1)) rfl
theorem t157_133 : rn 157 133 ls (.ref a :: r) M = if mK M a = (19, 0) then rn 157 136 ls (va_rf (mP M a 9) :: r) M else none := r_getP (ci := 9) (k := 9) (by decide +kernel : decode (mB 157) 133 = .ok (.getfield 32, 3)) (by decide +kernel) rfl
theorem t157_136 : rn 157 136 (a0 :: some (.int x) :: l) r M = rn 157 137 (a0 :: some (.int x) :: l) (.int x :: r) M := r_iload_n (by decide +kernel : decode (mB 157) 136 = .ok (.iload_n 1, 1)) rfl
theorem t157_137 : rn 157 137 ls (.int x :: .ref a :: r) M = if ((mK M a).1 = 1 ∨ (mK M a).1 = 5) ∧ inR x (mK M a).2 then rn 157 138 ls (.int (mI M a x.toNatClampNeg) :: r) M else none := r_cnd (by decide +kernel : decode (mB 157) 137 = .ok (.iaload, 1)) rfl rfl
theorem t157_138 : rn 157 138 ls [.int x] M = some (some (.int x), M) := r_ireturn (by decide +kernel : decode (mB 157) 138 = .ok (.ireturn, 1)) rfl
-- 158 DRModel_wants(I)J
theorem t158_0 : rn 158 0 (some (.ref a) :: l) r M = rn 158 1 (some (.ref a) :: l) (.ref a :: r) M := r_aload_n (by decide +kernel : decode (mB 158) 0 = .ok (.aload_n 0, 1)) rfl
theorem t158_1 : rn 158 1 (a0 :: some (.int x) :: l) r M = rn 158 2 (a0 :: some (.int x) :: l) (.int x :: r) M := r_iload_n (by decide +kernel : decode (mB 158) 1 = .ok (.iload_n 1, 1)) rfl
theorem t158_2 : rn 158 2 ls [.int x, .ref a] M = if mK M a = (19, 0) then cbn (cl 121 [.ref a, .int x] M) 158 5 ls [] else none := r_callV (kd := 0) (by decide +kernel : decode (mB 158) 2 = .ok (.invokevirtual 139, 3)) (by decide +kernel) ((doV_n np_121).trans rfl)
theorem t158_5 : rn 158 5 ls (.int x :: r) M = if ¬ x = 0 then rn 158 12 ls r M else rn 158 8 ls r M := r_if (o := 7) (r := r) (c := ¬ x = 0) (by decide +kernel : decode (mB 158) 5 = .ok (.ifCond .ne 7, 3)) rfl (by decide) rfl
theorem t158_8 : rn 158 8 ls r M = rn 158 11 ls (.long (-1) :: r) M := r_nx (by decide +kernel : decode (mB 158) 8 = .ok (.ldc2_w 110, 3)) rfl rfl
theorem t158_11 : rn 158 11 ls [.long u] M = some (some (.long u), M) := r_lreturn (by decide +kernel : decode (mB 158) 11 = .ok (.lreturn, 1)) rfl
theorem t158_12 : rn 158 12 (some (.ref a) :: l) r M = rn 158 13 (some (.ref a) :: l) (.ref a :: r) M := r_aload_n (by decide +kernel : decode (mB 158) 12 = .ok (.aload_n 0, 1)) rfl
theorem t158_13 : rn 158 13 ls [.ref a] M = if mK M a = (19, 0) then cbn (cl 131 [.ref a] M) 158 16 ls [] else none := r_callV (kd := 0) (by decide +kernel : decode (mB 158) 13 = .ok (.invokevirtual 82, 3)) (by decide +kernel) ((doV_n np_131).trans rfl)
theorem t158_16 : rn 158 16 (some (.ref a) :: l) r M = rn 158 17 (some (.ref a) :: l) (.ref a :: r) M := r_aload_n (by decide +kernel : decode (mB 158) 16 = .ok (.aload_n 0, 1)) rfl
theorem t158_17 : rn 158 17 ls (.ref a :: r) M = if mK M a = (19, 0) then rn 158 20 ls (va_rf (mP M a 8) :: r) M else none := r_getP (ci := 9) (k := 8) (by decide +kernel : decode (mB 158) 17 = .ok (.getfield 28, 3)) (by decide +kernel) rfl
theorem t158_20 : rn 158 20 (a0 :: some (.int x) :: l) r M = rn 158 21 (a0 :: some (.int x) :: l) (.int x :: r) M := r_iload_n (by decide +kernel : decode (mB 158) 20 = .ok (.iload_n 1, 1)) rfl
theorem t158_21 : rn 158 21 ls (.int x :: .ref a :: r) M = if (mK M a).1 = 2 ∧ inR x (mK M a).2 then rn 158 22 ls (.long (mJ M a x.toNatClampNeg) :: r) M else none := r_cnd (by decide +kernel : decode (mB 158) 21 = .ok (.laload, 1)) rfl rfl
theorem t158_22 : rn 158 22 ls r M = rn 158 23 ls (.long 1 :: r) M := r_nx (by decide +kernel : decode (mB 158) 22 = .ok (.lconst 1, 1)) rfl rfl
theorem t158_23 : rn 158 23 (a0 :: some (.int x) :: l) r M = rn 158 24 (a0 :: some (.int x) :: l) (.int x :: r) M := r_iload_n (by decide +kernel : decode (mB 158) 23 = .ok (.iload_n 1, 1)) rfl
theorem t158_24 : rn 158 24 ls (.int y :: .long u :: r) M = rn 158 25 ls (.long (u <<< (y.toInt64 &&& 63)) :: r) M := r_nx (by decide +kernel : decode (mB 158) 24 = .ok (.lshl, 1)) rfl rfl
theorem t158_25 : rn 158 25 ls (.long v :: .long u :: r) M = rn 158 26 ls (.long (u ||| v) :: r) M := r_nx (by decide +kernel : decode (mB 158) 25 = .ok (.lor, 1)) rfl rfl
theorem t158_26 : rn 158 26 (some (.ref a) :: l) r M = rn 158 27 (some (.ref a) :: l) (.ref a :: r) M := r_aload_n (by decide +kernel : decode (mB 158) 26 = .ok (.aload_n 0, 1)) rfl
theorem t158_27 : rn 158 27 ls [.ref a, .long u] M = if mK M a = (19, 0) then cbn (cl 129 [.ref a] M) 158 30 ls [.long u] else none := r_callV (kd := 0) (by decide +kernel : decode (mB 158) 27 = .ok (.invokevirtual 151, 3)) (by decide +kernel) ((doV_n np_129).trans rfl)
theorem t158_30 : rn 158 30 ls (.long v :: .long u :: r) M = rn 158 31 ls (.long (u &&& v) :: r) M := r_nx (by decide +kernel : decode (mB 158) 30 = .ok (.land, 1)) rfl rfl
theorem t158_31 : rn 158 31 ls [.long u] M = some (some (.long u), M) := r_lreturn (by decide +kernel : decode (mB 158) 31 = .ok (.lreturn, 1)) rfl
-- 159 DRModel_worst(I)I
theorem t159_0 : rn 159 0 (a0 :: some (.int x) :: l) r M = rn 159 1 (a0 :: some (.int x) :: l) (.int x :: r) M := r_iload_n (by decide +kernel : decode (mB 159) 0 = .ok (.iload_n 1, 1)) rfl
theorem t159_1 : rn 159 1 ls r M = rn 159 2 ls (.int 0 :: r) M := r_nx (by decide +kernel : decode (mB 159) 1 = .ok (.iconst 0, 1)) rfl rfl
theorem t159_2 : rn 159 2 ls r M = rn 159 3 ls (.int 1 :: r) M := r_nx (by decide +kernel : decode (mB 159) 2 = .ok (.iconst 1, 1)) rfl rfl
theorem t159_3 : rn 159 3 ls [.int x, .int y, .int z] M = cbn (cl 104 [.int z, .int y, .int x] M) 159 6 ls [] := r_callS (kd := 2) (by decide +kernel : decode (mB 159) 3 = .ok (.invokestatic 49, 3)) (by decide +kernel) (by decide +kernel) ((doS_n np_104).trans rfl)
theorem t159_6 : rn 159 6 ls (.int x :: r) M = if ¬ x = 0 then rn 159 12 ls r M else rn 159 9 ls r M := r_if (o := 6) (r := r) (c := ¬ x = 0) (by decide +kernel : decode (mB 159) 6 = .ok (.ifCond .ne 6, 3)) rfl (by decide) rfl
theorem t159_9 : rn 159 9 ls r M = rn 159 11 ls (.int (-2) :: r) M := r_nx (by decide +kernel : decode (mB 159) 9 = .ok (.bipush (-2), 2)) rfl rfl
theorem t159_11 : rn 159 11 ls [.int x] M = some (some (.int x), M) := r_ireturn (by decide +kernel : decode (mB 159) 11 = .ok (.ireturn, 1)) rfl
theorem t159_12 : rn 159 12 (some (.ref a) :: l) r M = rn 159 13 (some (.ref a) :: l) (.ref a :: r) M := r_aload_n (by decide +kernel : decode (mB 159) 12 = .ok (.aload_n 0, 1)) rfl
theorem t159_13 : rn 159 13 ls [.ref a] M = if mK M a = (19, 0) then cbn (cl 129 [.ref a] M) 159 16 ls [] else none := r_callV (kd := 0) (by decide +kernel : decode (mB 159) 13 = .ok (.invokevirtual 151, 3)) (by decide +kernel) ((doV_n np_129).trans rfl)
theorem t159_16 : rn 159 16 (a0 :: a1 :: a2 :: a3 :: l) (.long u :: r) M = rn 159 17 (a0 :: a1 :: some (.long u) :: none :: l) r M := r_lstore_n (by decide +kernel : decode (mB 159) 16 = .ok (.lstore_n 2, 1)) (Nat.le_add_left 4 l.length)
theorem t159_17 : rn 159 17 ls r M = rn 159 19 ls (.int (-6) :: r) M := r_nx (by decide +kernel : decode (mB 159) 17 = .ok (.bipush (-6), 2)) rfl rfl
theorem t159_19 : rn 159 19 (a0 :: a1 :: a2 :: a3 :: a4 :: l) (.int x :: r) M = rn 159 21 (a0 :: a1 :: a2 :: a3 :: some (.int x) :: l) r M := r_istore (by decide +kernel : decode (mB 159) 19 = .ok (.istore 4, 2)) (Nat.le_add_left 5 l.length)
theorem t159_21 : rn 159 21 ls r M = rn 159 22 ls (.int (-1) :: r) M := r_nx (by decide +kernel : decode (mB 159) 21 = .ok (.iconst (-1), 1)) rfl rfl
theorem t159_22 : rn 159 22 (a0 :: a1 :: a2 :: a3 :: a4 :: a5 :: l) (.int x :: r) M = rn 159 24 (a0 :: a1 :: a2 :: a3 :: a4 :: some (.int x) :: l) r M := r_istore (by decide +kernel : decode (mB 159) 22 = .ok (.istore 5, 2)) (Nat.le_add_left 6 l.length)
theorem t159_24 : rn 159 24 ls r M = rn 159 25 ls (.int 0 :: r) M := r_nx (by decide +kernel : decode (mB 159) 24 = .ok (.iconst 0, 1)) rfl rfl
theorem t159_25 : rn 159 25 (a0 :: a1 :: a2 :: a3 :: a4 :: a5 :: a6 :: l) (.int x :: r) M = rn 159 27 (a0 :: a1 :: a2 :: a3 :: a4 :: a5 :: some (.int x) :: l) r M := r_istore (by decide +kernel : decode (mB 159) 25 = .ok (.istore 6, 2)) (Nat.le_add_left 7 l.length)
theorem t159_27 : rn 159 27 (a0 :: a1 :: a2 :: a3 :: a4 :: a5 :: some (.int x) :: l) r M = rn 159 29 (a0 :: a1 :: a2 :: a3 :: a4 :: a5 :: some (.int x) :: l) (.int x :: r) M := r_iload (by decide +kernel : decode (mB 159) 27 = .ok (.iload 6, 2)) rfl
theorem t159_29 : rn 159 29 (some (.ref a) :: l) r M = rn 159 30 (some (.ref a) :: l) (.ref a :: r) M := r_aload_n (by decide +kernel : decode (mB 159) 29 = .ok (.aload_n 0, 1)) rfl
theorem t159_30 : rn 159 30 ls (.ref a :: r) M = if mK M a = (19, 0) then rn 159 33 ls (va_rf (mP M a 0) :: r) M else none := r_getP (ci := 9) (k := 0) (by decide +kernel : decode (mB 159) 30 = .ok (.getfield 7, 3)) (by decide +kernel) rfl
theorem t159_33 : rn 159 33 ls r M = rn 159 34 ls (.int 0 :: r) M := r_nx (by decide +kernel : decode (mB 159) 33 = .ok (.iconst 0, 1)) rfl rfl
theorem t159_34 : rn 159 34 ls (.int x :: .ref a :: r) M = if ((mK M a).1 = 1 ∨ (mK M a).1 = 5) ∧ inR x (mK M a).2 then rn 159 35 ls (.int (mI M a x.toNatClampNeg) :: r) M else none := r_cnd (by decide +kernel : decode (mB 159) 34 = .ok (.iaload, 1)) rfl rfl
theorem t159_35 : rn 159 35 ls (.int y :: .int x :: r) M = if y ≤ x then rn 159 106 ls r M else rn 159 38 ls r M := r_if (o := 71) (r := r) (c := y ≤ x) (by decide +kernel : decode (mB 159) 35 = .ok (.if_icmp .ge 71, 3)) rfl (by decide) rfl
theorem t159_38 : rn 159 38 (some (.ref a) :: l) r M = rn 159 39 (some (.ref a) :: l) (.ref a :: r) M := r_aload_n (by decide +kernel : decode (mB 159) 38 = .ok (.aload_n 0, 1)) rfl
theorem t159_39 : rn 159 39 (a0 :: a1 :: a2 :: a3 :: a4 :: a5 :: some (.int x) :: l) r M = rn 159 41 (a0 :: a1 :: a2 :: a3 :: a4 :: a5 :: some (.int x) :: l) (.int x :: r) M := r_iload (by decide +kernel : decode (mB 159) 39 = .ok (.iload 6, 2)) rfl
theorem t159_41 : rn 159 41 ls r M = rn 159 42 ls (.int 3 :: r) M := r_nx (by decide +kernel : decode (mB 159) 41 = .ok (.iconst 3, 1)) rfl rfl
theorem t159_42 : rn 159 42 ls [.int x, .int y, .ref a] M = if mK M a = (19, 0) then cbn (cl 111 [.ref a, .int y, .int x] M) 159 45 ls [] else none := r_callV (kd := 0) (by decide +kernel : decode (mB 159) 42 = .ok (.invokevirtual 53, 3)) (by decide +kernel) ((doV_n np_111).trans rfl)
theorem t159_45 : rn 159 45 ls r M = rn 159 46 ls (.int 1 :: r) M := r_nx (by decide +kernel : decode (mB 159) 45 = .ok (.iconst 1, 1)) rfl rfl
theorem t159_46 : rn 159 46 ls (.int y :: .int x :: r) M = if ¬ x = y then rn 159 53 ls r M else rn 159 49 ls r M := r_if (o := 7) (r := r) (c := ¬ x = y) (by decide +kernel : decode (mB 159) 46 = .ok (.if_icmp .ne 7, 3)) rfl (by decide) rfl
theorem t159_49 : rn 159 49 ls r M = rn 159 50 ls (.int (-1) :: r) M := r_nx (by decide +kernel : decode (mB 159) 49 = .ok (.iconst (-1), 1)) rfl rfl
theorem t159_50 : rn 159 50 ls r M = rn 159 66 ls r M := r_goto (o := 16) (by decide +kernel : decode (mB 159) 50 = .ok (.goto 16, 3)) (by decide)
theorem t159_53 : rn 159 53 (some (.ref a) :: l) r M = rn 159 54 (some (.ref a) :: l) (.ref a :: r) M := r_aload_n (by decide +kernel : decode (mB 159) 53 = .ok (.aload_n 0, 1)) rfl
theorem t159_54 : rn 159 54 (a0 :: a1 :: some (.long u) :: none :: l) r M = rn 159 55 (a0 :: a1 :: some (.long u) :: none :: l) (.long u :: r) M := r_lload_n (by decide +kernel : decode (mB 159) 54 = .ok (.lload_n 2, 1)) rfl rfl
theorem t159_55 : rn 159 55 ls r M = rn 159 56 ls (.long 1 :: r) M := r_nx (by decide +kernel : decode (mB 159) 55 = .ok (.lconst 1, 1)) rfl rfl
theorem t159_56 : rn 159 56 (a0 :: a1 :: a2 :: a3 :: a4 :: a5 :: some (.int x) :: l) r M = rn 159 58 (a0 :: a1 :: a2 :: a3 :: a4 :: a5 :: some (.int x) :: l) (.int x :: r) M := r_iload (by decide +kernel : decode (mB 159) 56 = .ok (.iload 6, 2)) rfl
theorem t159_58 : rn 159 58 ls (.int y :: .long u :: r) M = rn 159 59 ls (.long (u <<< (y.toInt64 &&& 63)) :: r) M := r_nx (by decide +kernel : decode (mB 159) 58 = .ok (.lshl, 1)) rfl rfl
theorem t159_59 : rn 159 59 ls (.long v :: .long u :: r) M = rn 159 60 ls (.long (u ||| v) :: r) M := r_nx (by decide +kernel : decode (mB 159) 59 = .ok (.lor, 1)) rfl rfl
theorem t159_60 : rn 159 60 ls [.long u, .ref a] M = if mK M a = (19, 0) then cbn (cl 130 [.ref a, .long u] M) 159 63 ls [] else none := r_callV (kd := 0) (by decide +kernel : decode (mB 159) 60 = .ok (.invokevirtual 154, 3)) (by decide +kernel) ((doV_n np_130).trans rfl)
theorem t159_63 : rn 159 63 ls [.long u] M = cbn (cl 125 [.long u] M) 159 66 ls [] := r_callS (kd := 2) (by decide +kernel : decode (mB 159) 63 = .ok (.invokestatic 118, 3)) (by decide +kernel) (by decide +kernel) ((doS_n np_125).trans rfl)
theorem t159_66 : rn 159 66 (a0 :: a1 :: a2 :: a3 :: a4 :: a5 :: a6 :: a7 :: l) (.int x :: r) M = rn 159 68 (a0 :: a1 :: a2 :: a3 :: a4 :: a5 :: a6 :: some (.int x) :: l) r M := r_istore (by decide +kernel : decode (mB 159) 66 = .ok (.istore 7, 2)) (Nat.le_add_left 8 l.length)
theorem t159_68 : rn 159 68 (a0 :: a1 :: a2 :: a3 :: a4 :: a5 :: a6 :: some (.int x) :: l) r M = rn 159 70 (a0 :: a1 :: a2 :: a3 :: a4 :: a5 :: a6 :: some (.int x) :: l) (.int x :: r) M := r_iload (by decide +kernel : decode (mB 159) 68 = .ok (.iload 7, 2)) rfl
theorem t159_70 : rn 159 70 (a0 :: a1 :: a2 :: a3 :: a4 :: some (.int x) :: l) r M = rn 159 72 (a0 :: a1 :: a2 :: a3 :: a4 :: some (.int x) :: l) (.int x :: r) M := r_iload (by decide +kernel : decode (mB 159) 70 = .ok (.iload 5, 2)) rfl
theorem t159_72 : rn 159 72 ls (.int y :: .int x :: r) M = if x ≤ y then rn 159 80 ls r M else rn 159 75 ls r M := r_if (o := 8) (r := r) (c := x ≤ y) (by decide +kernel : decode (mB 159) 72 = .ok (.if_icmp .le 8, 3)) rfl (by decide) rfl
theorem t159_75 : rn 159 75 (a0 :: a1 :: a2 :: a3 :: a4 :: a5 :: some (.int x) :: l) r M = rn 159 77 (a0 :: a1 :: a2 :: a3 :: a4 :: a5 :: some (.int x) :: l) (.int x :: r) M := r_iload (by decide +kernel : decode (mB 159) 75 = .ok (.iload 6, 2)) rfl
theorem t159_77 : rn 159 77 ls r M = rn 159 82 ls r M := r_goto (o := 5) (by decide +kernel : decode (mB 159) 77 = .ok (.goto 5, 3)) (by decide)
theorem t159_80 : rn 159 80 (a0 :: a1 :: a2 :: a3 :: some (.int x) :: l) r M = rn 159 82 (a0 :: a1 :: a2 :: a3 :: some (.int x) :: l) (.int x :: r) M := r_iload (by decide +kernel : decode (mB 159) 80 = .ok (.iload 4, 2)) rfl
theorem t159_82 : rn 159 82 (a0 :: a1 :: a2 :: a3 :: a4 :: l) (.int x :: r) M = rn 159 84 (a0 :: a1 :: a2 :: a3 :: some (.int x) :: l) r M := r_istore (by decide +kernel : decode (mB 159) 82 = .ok (.istore 4, 2)) (Nat.le_add_left 5 l.length)
theorem t159_84 : rn 159 84 (a0 :: a1 :: a2 :: a3 :: a4 :: a5 :: a6 :: some (.int x) :: l) r M = rn 159 86 (a0 :: a1 :: a2 :: a3 :: a4 :: a5 :: a6 :: some (.int x) :: l) (.int x :: r) M := r_iload (by decide +kernel : decode (mB 159) 84 = .ok (.iload 7, 2)) rfl
theorem t159_86 : rn 159 86 (a0 :: a1 :: a2 :: a3 :: a4 :: some (.int x) :: l) r M = rn 159 88 (a0 :: a1 :: a2 :: a3 :: a4 :: some (.int x) :: l) (.int x :: r) M := r_iload (by decide +kernel : decode (mB 159) 86 = .ok (.iload 5, 2)) rfl
theorem t159_88 : rn 159 88 ls (.int y :: .int x :: r) M = if x ≤ y then rn 159 96 ls r M else rn 159 91 ls r M := r_if (o := 8) (r := r) (c := x ≤ y) (by decide +kernel : decode (mB 159) 88 = .ok (.if_icmp .le 8, 3)) rfl (by decide) rfl
theorem t159_91 : rn 159 91 (a0 :: a1 :: a2 :: a3 :: a4 :: a5 :: a6 :: some (.int x) :: l) r M = rn 159 93 (a0 :: a1 :: a2 :: a3 :: a4 :: a5 :: a6 :: some (.int x) :: l) (.int x :: r) M := r_iload (by decide +kernel : decode (mB 159) 91 = .ok (.iload 7, 2)) rfl
theorem t159_93 : rn 159 93 ls r M = rn 159 98 ls r M := r_goto (o := 5) (by decide +kernel : decode (mB 159) 93 = .ok (.goto 5, 3)) (by decide)
theorem t159_96 : rn 159 96 (a0 :: a1 :: a2 :: a3 :: a4 :: some (.int x) :: l) r M = rn 159 98 (a0 :: a1 :: a2 :: a3 :: a4 :: some (.int x) :: l) (.int x :: r) M := r_iload (by decide +kernel : decode (mB 159) 96 = .ok (.iload 5, 2)) rfl
theorem t159_98 : rn 159 98 (a0 :: a1 :: a2 :: a3 :: a4 :: a5 :: l) (.int x :: r) M = rn 159 100 (a0 :: a1 :: a2 :: a3 :: a4 :: some (.int x) :: l) r M := r_istore (by decide +kernel : decode (mB 159) 98 = .ok (.istore 5, 2)) (Nat.le_add_left 6 l.length)
theorem t159_100 : rn 159 100 (a0 :: a1 :: a2 :: a3 :: a4 :: a5 :: some (.int x) :: l) r M = rn 159 103 (a0 :: a1 :: a2 :: a3 :: a4 :: a5 :: some (.int (x + 1)) :: l) r M := r_iinc (by decide +kernel : decode (mB 159) 100 = .ok (.iinc 6 1, 3)) rfl
theorem t159_103 : rn 159 103 ls r M = rn 159 27 ls r M := r_goto (o := (-76)) (by decide +kernel : decode (mB 159) 103 = .ok (.goto (-76), 3)) (by decide)
theorem t159_106 : rn 159 106 (a0 :: a1 :: a2 :: a3 :: some (.int x) :: l) r M = rn 159 108 (a0 :: a1 :: a2 :: a3 :: some (.int x) :: l) (.int x :: r) M := r_iload (by decide +kernel : decode (mB 159) 106 = .ok (.iload 4, 2)) rfl
theorem t159_108 : rn 159 108 ls r M = rn 159 110 ls (.int (-6) :: r) M := r_nx (by decide +kernel : decode (mB 159) 108 = .ok (.bipush (-6), 2)) rfl rfl
theorem t159_110 : rn 159 110 ls (.int y :: .int x :: r) M = if x = y then rn 159 117 ls r M else rn 159 113 ls r M := r_if (o := 7) (r := r) (c := x = y) (by decide +kernel : decode (mB 159) 110 = .ok (.if_icmp .eq 7, 3)) rfl (by decide) rfl
theorem t159_113 : rn 159 113 (a0 :: some (.int x) :: l) r M = rn 159 114 (a0 :: some (.int x) :: l) (.int x :: r) M := r_iload_n (by decide +kernel : decode (mB 159) 113 = .ok (.iload_n 1, 1)) rfl
theorem t159_114 : rn 159 114 ls (.int x :: r) M = if ¬ x = 0 then rn 159 122 ls r M else rn 159 117 ls r M := r_if (o := 8) (r := r) (c := ¬ x = 0) (by decide +kernel : decode (mB 159) 114 = .ok (.ifCond .ne 8, 3)) rfl (by decide) rfl
theorem t159_117 : rn 159 117 (a0 :: a1 :: a2 :: a3 :: some (.int x) :: l) r M = rn 159 119 (a0 :: a1 :: a2 :: a3 :: some (.int x) :: l) (.int x :: r) M := r_iload (by decide +kernel : decode (mB 159) 117 = .ok (.iload 4, 2)) rfl
theorem t159_119 : rn 159 119 ls r M = rn 159 124 ls r M := r_goto (o := 5) (by decide +kernel : decode (mB 159) 119 = .ok (.goto 5, 3)) (by decide)
theorem t159_122 : rn 159 122 (a0 :: a1 :: a2 :: a3 :: a4 :: some (.int x) :: l) r M = rn 159 124 (a0 :: a1 :: a2 :: a3 :: a4 :: some (.int x) :: l) (.int x :: r) M := r_iload (by decide +kernel : decode (mB 159) 122 = .ok (.iload 5, 2)) rfl
theorem t159_124 : rn 159 124 ls [.int x] M = some (some (.int x), M) := r_ireturn (by decide +kernel : decode (mB 159) 124 = .ok (.ireturn, 1)) rfl
-- 160 DRModel_unlike()I
theorem t160_0 : rn 160 0 (some (.ref a) :: l) r M = rn 160 1 (some (.ref a) :: l) (.ref a :: r) M := r_aload_n (by decide +kernel : decode (mB 160) 0 = .ok (.aload_n 0, 1)) rfl
theorem t160_1 : rn 160 1 ls (.ref a :: r) M = if mK M a = (19, 0) then rn 160 4 ls (va_rf (mP M a 0) :: r) M else none := r_getP (ci := 9) (k := 0) (by decide +kernel : decode (mB 160) 1 = .ok (.getfield 7, 3)) (by decide +kernel) rfl
theorem t160_4 : rn 160 4 ls r M = rn 160 5 ls (.int 0 :: r) M := r_nx (by decide +kernel : decode (mB 160) 4 = .ok (.iconst 0, 1)) rfl rfl
theorem t160_5 : rn 160 5 (some (.ref a) :: l) r M = rn 160 6 (some (.ref a) :: l) (.ref a :: r) M := r_aload_n (by decide +kernel : decode (mB 160) 5 = .ok (.aload_n 0, 1)) rfl
theorem t160_6 : rn 160 6 ls (.ref a :: r) M = if mK M a = (19, 0) then rn 160 9 ls (va_rf (mP M a 1) :: r) M else none := r_getP (ci := 9) (k := 1) (by decide +kernel : decode (mB 160) 6 = .ok (.getfield 13, 3)) (by decide +kernel) rfl
theorem t160_9 : rn 160 9 ls r M = rn 160 10 ls (.int 0 :: r) M := r_nx (by decide +kernel : decode (mB 160) 9 = .ok (.iconst 0, 1)) rfl rfl
theorem t160_10 : rn 160 10 ls [.int x, .ref a, .int y, .ref b] M = cbn (cl 107 [.ref b, .int y, .ref a, .int x] M) 160 13 ls [] := r_callS (kd := 2) (by decide +kernel : decode (mB 160) 10 = .ok (.invokestatic 45, 3)) (by decide +kernel) (by decide +kernel) ((doS_n np_107).trans rfl)
theorem t160_13 : rn 160 13 (some (.ref a) :: l) r M = rn 160 14 (some (.ref a) :: l) (.ref a :: r) M := r_aload_n (by decide +kernel : decode (mB 160) 13 = .ok (.aload_n 0, 1)) rfl
theorem t160_14 : rn 160 14 ls [.ref a] M = if mK M a = (19, 0) then cbn (cl 100 [.ref a] M) 160 17 ls [] else none := r_callV (kd := 0) (by decide +kernel : decode (mB 160) 14 = .ok (.invokevirtual 38, 3)) (by decide +kernel) ((doV_n np_100).trans rfl)
theorem t160_17 : rn 160 17 ls r M = rn 160 18 ls (.int 0 :: r) M := r_nx (by decide +kernel : decode (mB 160) 17 = .ok (.iconst 0, 1)) rfl rfl
theorem t160_18 : rn 160 18 (a0 :: a1 :: l) (.int x :: r) M = rn 160 19 (a0 :: some (.int x) :: l) r M := r_istore_n (by decide +kernel : decode (mB 160) 18 = .ok (.istore_n 1, 1)) (Nat.le_add_left 2 l.length)
theorem t160_19 : rn 160 19 (a0 :: some (.int x) :: l) r M = rn 160 20 (a0 :: some (.int x) :: l) (.int x :: r) M := r_iload_n (by decide +kernel : decode (mB 160) 19 = .ok (.iload_n 1, 1)) rfl
theorem t160_20 : rn 160 20 (some (.ref a) :: l) r M = rn 160 21 (some (.ref a) :: l) (.ref a :: r) M := r_aload_n (by decide +kernel : decode (mB 160) 20 = .ok (.aload_n 0, 1)) rfl
theorem t160_21 : rn 160 21 ls (.ref a :: r) M = if mK M a = (19, 0) then rn 160 24 ls (va_rf (mP M a 0) :: r) M else none := r_getP (ci := 9) (k := 0) (by decide +kernel : decode (mB 160) 21 = .ok (.getfield 7, 3)) (by decide +kernel) rfl
theorem t160_24 : rn 160 24 ls r M = rn 160 25 ls (.int 0 :: r) M := r_nx (by decide +kernel : decode (mB 160) 24 = .ok (.iconst 0, 1)) rfl rfl
theorem t160_25 : rn 160 25 ls (.int x :: .ref a :: r) M = if ((mK M a).1 = 1 ∨ (mK M a).1 = 5) ∧ inR x (mK M a).2 then rn 160 26 ls (.int (mI M a x.toNatClampNeg) :: r) M else none := r_cnd (by decide +kernel : decode (mB 160) 25 = .ok (.iaload, 1)) rfl rfl
theorem t160_26 : rn 160 26 ls (.int y :: .int x :: r) M = if y ≤ x then rn 160 50 ls r M else rn 160 29 ls r M := r_if (o := 24) (r := r) (c := y ≤ x) (by decide +kernel : decode (mB 160) 26 = .ok (.if_icmp .ge 24, 3)) rfl (by decide) rfl
theorem t160_29 : rn 160 29 (some (.ref a) :: l) r M = rn 160 30 (some (.ref a) :: l) (.ref a :: r) M := r_aload_n (by decide +kernel : decode (mB 160) 29 = .ok (.aload_n 0, 1)) rfl
theorem t160_30 : rn 160 30 (a0 :: some (.int x) :: l) r M = rn 160 31 (a0 :: some (.int x) :: l) (.int x :: r) M := r_iload_n (by decide +kernel : decode (mB 160) 30 = .ok (.iload_n 1, 1)) rfl
theorem t160_31 : rn 160 31 ls r M = rn 160 32 ls (.int 3 :: r) M := r_nx (by decide +kernel : decode (mB 160) 31 = .ok (.iconst 3, 1)) rfl rfl
theorem t160_32 : rn 160 32 ls [.int x, .int y, .ref a] M = if mK M a = (19, 0) then cbn (cl 111 [.ref a, .int y, .int x] M) 160 35 ls [] else none := r_callV (kd := 0) (by decide +kernel : decode (mB 160) 32 = .ok (.invokevirtual 53, 3)) (by decide +kernel) ((doV_n np_111).trans rfl)
theorem t160_35 : rn 160 35 ls (.int x :: r) M = if ¬ x = 0 then rn 160 44 ls r M else rn 160 38 ls r M := r_if (o := 9) (r := r) (c := ¬ x = 0) (by decide +kernel : decode (mB 160) 35 = .ok (.ifCond .ne 9, 3)) rfl (by decide) rfl
theorem t160_38 : rn 160 38 (some (.ref a) :: l) r M = rn 160 39 (some (.ref a) :: l) (.ref a :: r) M := r_aload_n (by decide +kernel : decode (mB 160) 38 = .ok (.aload_n 0, 1)) rfl
theorem t160_39 : rn 160 39 (a0 :: some (.int x) :: l) r M = rn 160 40 (a0 :: some (.int x) :: l) (.int x :: r) M := r_iload_n (by decide +kernel : decode (mB 160) 39 = .ok (.iload_n 1, 1)) rfl
theorem t160_40 : rn 160 40 ls [.int x, .ref a] M = if mK M a = (19, 0) then cbn (cl 138 [.ref a, .int x] M) 160 43 ls [] else none := r_callV (kd := 0) (by decide +kernel : decode (mB 160) 40 = .ok (.invokevirtual 115, 3)) (by decide +kernel) ((doV_n np_138).trans rfl)
theorem t160_43 : rn 160 43 ls (.int x :: r) M = rn 160 44 ls r M := r_nx (by decide +kernel : decode (mB 160) 43 = .ok (.pop, 1)) rfl rfl
theorem t160_44 : rn 160 44 (a0 :: some (.int x) :: l) r M = rn 160 47 (a0 :: some (.int (x + 1)) :: l) r M := r_iinc (by decide +kernel : decode (mB 160) 44 = .ok (.iinc 1 1, 3)) rfl
theorem t160_47 : rn 160 47 ls r M = rn 160 19 ls r M := r_goto (o := (-28)) (by decide +kernel : decode (mB 160) 47 = .ok (.goto (-28), 3)) (by decide)
theorem t160_50 : rn 160 50 ls r M = rn 160 51 ls (.int 0 :: r) M := r_nx (by decide +kernel : decode (mB 160) 50 = .ok (.iconst 0, 1)) rfl rfl
theorem t160_51 : rn 160 51 (a0 :: a1 :: l) (.int x :: r) M = rn 160 52 (a0 :: some (.int x) :: l) r M := r_istore_n (by decide +kernel : decode (mB 160) 51 = .ok (.istore_n 1, 1)) (Nat.le_add_left 2 l.length)
theorem t160_52 : rn 160 52 (a0 :: some (.int x) :: l) r M = rn 160 53 (a0 :: some (.int x) :: l) (.int x :: r) M := r_iload_n (by decide +kernel : decode (mB 160) 52 = .ok (.iload_n 1, 1)) rfl
theorem t160_53 : rn 160 53 ls r M = rn 160 55 ls (.int 48 :: r) M := r_nx (by decide +kernel : decode (mB 160) 53 = .ok (.bipush 48, 2)) rfl rfl
theorem t160_55 : rn 160 55 ls (.int y :: .int x :: r) M = if y ≤ x then rn 160 80 ls r M else rn 160 58 ls r M := r_if (o := 25) (r := r) (c := y ≤ x) (by decide +kernel : decode (mB 160) 55 = .ok (.if_icmp .ge 25, 3)) rfl (by decide) rfl
theorem t160_58 : rn 160 58 (some (.ref a) :: l) r M = rn 160 59 (some (.ref a) :: l) (.ref a :: r) M := r_aload_n (by decide +kernel : decode (mB 160) 58 = .ok (.aload_n 0, 1)) rfl
theorem t160_59 : rn 160 59 ls (.ref a :: r) M = if mK M a = (19, 0) then rn 160 62 ls (va_rf (mP M a 10) :: r) M else none := r_getP (ci := 9) (k := 10) (by decide +kernel : decode (mB 160) 59 = .ok (.getfield 35, 3)) (by decide +kernel) rfl
theorem t160_62 : rn 160 62 (a0 :: some (.int x) :: l) r M = rn 160 63 (a0 :: some (.int x) :: l) (.int x :: r) M := r_iload_n (by decide +kernel : decode (mB 160) 62 = .ok (.iload_n 1, 1)) rfl
theorem t160_63 : rn 160 63 (some (.ref a) :: l) r M = rn 160 64 (some (.ref a) :: l) (.ref a :: r) M := r_aload_n (by decide +kernel : decode (mB 160) 63 = .ok (.aload_n 0, 1)) rfl
theorem t160_64 : rn 160 64 ls (.ref a :: r) M = if mK M a = (19, 0) then rn 160 67 ls (va_rf (mP M a 0) :: r) M else none := r_getP (ci := 9) (k := 0) (by decide +kernel : decode (mB 160) 64 = .ok (.getfield 7, 3)) (by decide +kernel) rfl
theorem t160_67 : rn 160 67 ls r M = rn 160 70 ls (.int 322 :: r) M := r_nx (by decide +kernel : decode (mB 160) 67 = .ok (.sipush 322, 3)) rfl rfl
theorem t160_70 : rn 160 70 (a0 :: some (.int x) :: l) r M = rn 160 71 (a0 :: some (.int x) :: l) (.int x :: r) M := r_iload_n (by decide +kernel : decode (mB 160) 70 = .ok (.iload_n 1, 1)) rfl
theorem t160_71 : rn 160 71 ls (.int y :: .int x :: r) M = rn 160 72 ls (.int (x + y) :: r) M := r_nx (by decide +kernel : decode (mB 160) 71 = .ok (.iadd, 1)) rfl rfl
theorem t160_72 : rn 160 72 ls (.int x :: .ref a :: r) M = if ((mK M a).1 = 1 ∨ (mK M a).1 = 5) ∧ inR x (mK M a).2 then rn 160 73 ls (.int (mI M a x.toNatClampNeg) :: r) M else none := r_cnd (by decide +kernel : decode (mB 160) 72 = .ok (.iaload, 1)) rfl rfl
theorem t160_73 : rn 160 73 ls (.int y :: .int x :: .ref a :: r) M = if (mK M a).1 = 1 ∧ inR x (mK M a).2 then rn 160 74 ls r (sI M a (va_up (mI M a) x.toNatClampNeg y)) else none := r_cnd (by decide +kernel : decode (mB 160) 73 = .ok (.iastore, 1)) rfl rfl
theorem t160_74 : rn 160 74 (a0 :: some (.int x) :: l) r M = rn 160 77 (a0 :: some (.int (x + 1)) :: l) r M := r_iinc (by decide +kernel : decode (mB 160) 74 = .ok (.iinc 1 1, 3)) rfl
theorem t160_77 : rn 160 77 ls r M = rn 160 52 ls r M := r_goto (o := (-25)) (by decide +kernel : decode (mB 160) 77 = .ok (.goto (-25), 3)) (by decide)
theorem t160_80 : rn 160 80 (some (.ref a) :: l) r M = rn 160 81 (some (.ref a) :: l) (.ref a :: r) M := r_aload_n (by decide +kernel : decode (mB 160) 80 = .ok (.aload_n 0, 1)) rfl
theorem t160_81 : rn 160 81 ls [.ref a] M = if mK M a = (19, 0) then cbn (cl 123 [.ref a] M) 160 84 ls [] else none := r_callV (kd := 0) (by decide +kernel : decode (mB 160) 81 = .ok (.invokevirtual 142, 3)) (by decide +kernel) ((doV_n np_123).trans rfl)
theorem t160_84 : rn 160 84 (some (.ref a) :: l) r M = rn 160 85 (some (.ref a) :: l) (.ref a :: r) M := r_aload_n (by decide +kernel : decode (mB 160) 84 = .ok (.aload_n 0, 1)) rfl
theorem t160_85 : rn 160 85 ls [.ref a] M = if mK M a = (19, 0) then cbn (cl 145 [.ref a] M) 160 88 ls [] else none := r_callV (kd := 0) (by decide +kernel : decode (mB 160) 85 = .ok (.invokevirtual 164, 3)) (by decide +kernel) ((doV_n np_145).trans rfl)
theorem t160_88 : rn 160 88 ls (.int x :: r) M = rn 160 89 ls r M := r_nx (by decide +kernel : decode (mB 160) 88 = .ok (.pop, 1)) rfl rfl
theorem t160_89 : rn 160 89 ls r M = rn 160 90 ls (.int 0 :: r) M := r_nx (by decide +kernel : decode (mB 160) 89 = .ok (.iconst 0, 1)) rfl rfl
theorem t160_90 : rn 160 90 (a0 :: a1 :: l) (.int x :: r) M = rn 160 91 (a0 :: some (.int x) :: l) r M := r_istore_n (by decide +kernel : decode (mB 160) 90 = .ok (.istore_n 1, 1)) (Nat.le_add_left 2 l.length)
theorem t160_91 : rn 160 91 ls r M = rn 160 92 ls (.int 0 :: r) M := r_nx (by decide +kernel : decode (mB 160) 91 = .ok (.iconst 0, 1)) rfl rfl
theorem t160_92 : rn 160 92 (a0 :: a1 :: a2 :: l) (.int x :: r) M = rn 160 93 (a0 :: a1 :: some (.int x) :: l) r M := r_istore_n (by decide +kernel : decode (mB 160) 92 = .ok (.istore_n 2, 1)) (Nat.le_add_left 3 l.length)
theorem t160_93 : rn 160 93 (a0 :: a1 :: some (.int x) :: l) r M = rn 160 94 (a0 :: a1 :: some (.int x) :: l) (.int x :: r) M := r_iload_n (by decide +kernel : decode (mB 160) 93 = .ok (.iload_n 2, 1)) rfl
theorem t160_94 : rn 160 94 ls r M = rn 160 96 ls (.int 48 :: r) M := r_nx (by decide +kernel : decode (mB 160) 94 = .ok (.bipush 48, 2)) rfl rfl
theorem t160_96 : rn 160 96 ls (.int y :: .int x :: r) M = if y ≤ x then rn 160 136 ls r M else rn 160 99 ls r M := r_if (o := 40) (r := r) (c := y ≤ x) (by decide +kernel : decode (mB 160) 96 = .ok (.if_icmp .ge 40, 3)) rfl (by decide) rfl
theorem t160_99 : rn 160 99 (a0 :: some (.int x) :: l) r M = rn 160 100 (a0 :: some (.int x) :: l) (.int x :: r) M := r_iload_n (by decide +kernel : decode (mB 160) 99 = .ok (.iload_n 1, 1)) rfl
theorem t160_100 : rn 160 100 (some (.ref a) :: l) r M = rn 160 101 (some (.ref a) :: l) (.ref a :: r) M := r_aload_n (by decide +kernel : decode (mB 160) 100 = .ok (.aload_n 0, 1)) rfl
theorem t160_101 : rn 160 101 ls (.ref a :: r) M = if mK M a = (19, 0) then rn 160 104 ls (va_rf (mP M a 10) :: r) M else none := r_getP (ci := 9) (k := 10) (by decide +kernel : decode (mB 160) 101 = .ok (.getfield 35, 3)) (by decide +kernel) rfl
theorem t160_104 : rn 160 104 (a0 :: a1 :: some (.int x) :: l) r M = rn 160 105 (a0 :: a1 :: some (.int x) :: l) (.int x :: r) M := r_iload_n (by decide +kernel : decode (mB 160) 104 = .ok (.iload_n 2, 1)) rfl
theorem t160_105 : rn 160 105 ls (.int x :: .ref a :: r) M = if ((mK M a).1 = 1 ∨ (mK M a).1 = 5) ∧ inR x (mK M a).2 then rn 160 106 ls (.int (mI M a x.toNatClampNeg) :: r) M else none := r_cnd (by decide +kernel : decode (mB 160) 105 = .ok (.iaload, 1)) rfl rfl
theorem t160_106 : rn 160 106 (some (.ref a) :: l) r M = rn 160 107 (some (.ref a) :: l) (.ref a :: r) M := r_aload_n (by decide +kernel : decode (mB 160) 106 = .ok (.aload_n 0, 1)) rfl
theorem t160_107 : rn 160 107 ls (.ref a :: r) M = if mK M a = (19, 0) then rn 160 110 ls (va_rf (mP M a 0) :: r) M else none := r_getP (ci := 9) (k := 0) (by decide +kernel : decode (mB 160) 107 = .ok (.getfield 7, 3)) (by decide +kernel) rfl
theorem t160_110 : rn 160 110 ls r M = rn 160 113 ls (.int 322 :: r) M := r_nx (by decide +kernel : decode (mB 160) 110 = .ok (.sipush 322, 3)) rfl rfl
theorem t160_113 : rn 160 113 (a0 :: a1 :: some (.int x) :: l) r M = rn 160 114 (a0 :: a1 :: some (.int x) :: l) (.int x :: r) M := r_iload_n (by decide +kernel : decode (mB 160) 113 = .ok (.iload_n 2, 1)) rfl
theorem t160_114 : rn 160 114 ls (.int y :: .int x :: r) M = rn 160 115 ls (.int (x + y) :: r) M := r_nx (by decide +kernel : decode (mB 160) 114 = .ok (.iadd, 1)) rfl rfl
theorem t160_115 : rn 160 115 ls (.int x :: .ref a :: r) M = if ((mK M a).1 = 1 ∨ (mK M a).1 = 5) ∧ inR x (mK M a).2 then rn 160 116 ls (.int (mI M a x.toNatClampNeg) :: r) M else none := r_cnd (by decide +kernel : decode (mB 160) 115 = .ok (.iaload, 1)) rfl rfl
theorem t160_116 : rn 160 116 ls (.int y :: .int x :: r) M = if ¬ x = y then rn 160 123 ls r M else rn 160 119 ls r M := r_if (o := 7) (r := r) (c := ¬ x = y) (by decide +kernel : decode (mB 160) 116 = .ok (.if_icmp .ne 7, 3)) rfl (by decide) rfl
theorem t160_119 : rn 160 119 ls r M = rn 160 120 ls (.int 0 :: r) M := r_nx (by decide +kernel : decode (mB 160) 119 = .ok (.iconst 0, 1)) rfl rfl
theorem t160_120 : rn 160 120 ls r M = rn 160 128 ls r M := r_goto (o := 8) (by decide +kernel : decode (mB 160) 120 = .ok (.goto 8, 3)) (by decide)
theorem t160_123 : rn 160 123 ls r M = rn 160 124 ls (.int 1 :: r) M := r_nx (by decide +kernel : decode (mB 160) 123 = .ok (.iconst 1, 1)) rfl rfl
theorem t160_124 : rn 160 124 (a0 :: a1 :: some (.int x) :: l) r M = rn 160 125 (a0 :: a1 :: some (.int x) :: l) (.int x :: r) M := r_iload_n (by decide +kernel : decode (mB 160) 124 = .ok (.iload_n 2, 1)) rfl
theorem t160_125 : rn 160 125 ls r M = rn 160 126 ls (.int 3 :: r) M := r_nx (by decide +kernel : decode (mB 160) 125 = .ok (.iconst 3, 1)) rfl rfl
theorem t160_126 (hy : ¬ y = 0) : rn 160 126 ls (.int y :: .int x :: r) M = rn 160 127 ls (.int (x / y) :: r) M := r_nx (by decide +kernel : decode (mB 160) 126 = .ok (.idiv, 1)) rfl (by show Option.map _ (if y = 0 then none else nx _ _ _ _) = _; rw [if_neg hy]; rfl)
theorem t160_127 : rn 160 127 ls (.int y :: .int x :: r) M = rn 160 128 ls (.int (x <<< (y &&& 31)) :: r) M := r_nx (by decide +kernel : decode (mB 160) 127 = .ok (.ishl, 1)) rfl rfl
theorem t160_128 : rn 160 128 ls (.int y :: .int x :: r) M = rn 160 129 ls (.int (x ||| y) :: r) M := r_nx (by decide +kernel : decode (mB 160) 128 = .ok (.ior, 1)) rfl rfl
theorem t160_129 : rn 160 129 (a0 :: a1 :: l) (.int x :: r) M = rn 160 130 (a0 :: some (.int x) :: l) r M := r_istore_n (by decide +kernel : decode (mB 160) 129 = .ok (.istore_n 1, 1)) (Nat.le_add_left 2 l.length)
theorem t160_130 : rn 160 130 (a0 :: a1 :: some (.int x) :: l) r M = rn 160 133 (a0 :: a1 :: some (.int (x + 1)) :: l) r M := r_iinc (by decide +kernel : decode (mB 160) 130 = .ok (.iinc 2 1, 3)) rfl
theorem t160_133 : rn 160 133 ls r M = rn 160 93 ls r M := r_goto (o := (-40)) (by decide +kernel : decode (mB 160) 133 = .ok (.goto (-40), 3)) (by decide)
theorem t160_136 : rn 160 136 (some (.ref a) :: l) r M = rn 160 137 (some (.ref a) :: l) (.ref a :: r) M := r_aload_n (by decide +kernel : decode (mB 160) 136 = .ok (.aload_n 0, 1)) rfl
theorem t160_137 : rn 160 137 ls (.ref a :: r) M = if mK M a = (19, 0) then rn 160 140 ls (va_rf (mP M a 1) :: r) M else none := r_getP (ci := 9) (k := 1) (by decide +kernel : decode (mB 160) 137 = .ok (.getfield 13, 3)) (by decide +kernel) rfl
theorem t160_140 : rn 160 140 ls r M = rn 160 141 ls (.int 0 :: r) M := r_nx (by decide +kernel : decode (mB 160) 140 = .ok (.iconst 0, 1)) rfl rfl
theorem t160_141 : rn 160 141 (some (.ref a) :: l) r M = rn 160 142 (some (.ref a) :: l) (.ref a :: r) M := r_aload_n (by decide +kernel : decode (mB 160) 141 = .ok (.aload_n 0, 1)) rfl
theorem t160_142 : rn 160 142 ls (.ref a :: r) M = if mK M a = (19, 0) then rn 160 145 ls (va_rf (mP M a 0) :: r) M else none := r_getP (ci := 9) (k := 0) (by decide +kernel : decode (mB 160) 142 = .ok (.getfield 7, 3)) (by decide +kernel) rfl
theorem t160_145 : rn 160 145 ls r M = rn 160 146 ls (.int 0 :: r) M := r_nx (by decide +kernel : decode (mB 160) 145 = .ok (.iconst 0, 1)) rfl rfl
theorem t160_146 : rn 160 146 ls [.int x, .ref a, .int y, .ref b] M = cbn (cl 107 [.ref b, .int y, .ref a, .int x] M) 160 149 ls [] := r_callS (kd := 2) (by decide +kernel : decode (mB 160) 146 = .ok (.invokestatic 45, 3)) (by decide +kernel) (by decide +kernel) ((doS_n np_107).trans rfl)
theorem t160_149 : rn 160 149 (a0 :: some (.int x) :: l) r M = rn 160 150 (a0 :: some (.int x) :: l) (.int x :: r) M := r_iload_n (by decide +kernel : decode (mB 160) 149 = .ok (.iload_n 1, 1)) rfl
theorem t160_150 : rn 160 150 ls [.int x] M = some (some (.int x), M) := r_ireturn (by decide +kernel : decode (mB 160) 150 = .ok (.ireturn, 1)) rfl
-- 161 DRModel_put(J)I
theorem t161_0 : rn 161 0 ls r M = rn 161 1 ls (.int 0 :: r) M := r_nx (by decide +kernel : decode (mB 161) 0 = .ok (.iconst 0, 1)) rfl rfl
theorem t161_1 : rn 161 1 (a0 :: a1 :: a2 :: a3 :: l) (.int x :: r) M = rn 161 2 (a0 :: a1 :: a2 :: some (.int x) :: l) r M := r_istore_n (by decide +kernel : decode (mB 161) 1 = .ok (.istore_n 3, 1)) (Nat.le_add_left 4 l.length)
theorem t161_2 : rn 161 2 (a0 :: some (.long u) :: none :: l) r M = rn 161 3 (a0 :: some (.long u) :: none :: l) (.long u :: r) M := r_lload_n (by decide +kernel : decode (mB 161) 2 = .ok (.lload_n 1, 1)) rfl rfl
theorem t161_3 : rn 161 3 (a0 :: a1 :: a2 :: a3 :: a4 :: a5 :: l) (.long u :: r) M = rn 161 5 (a0 :: a1 :: a2 :: a3 :: some (.long u) :: none :: l) r M := r_lstore (by decide +kernel : decode (mB 161) 3 = .ok (.lstore 4, 2)) (Nat.le_add_left 6 l.length)
theorem t161_5 : rn 161 5 ls r M = rn 161 6 ls (.int 1 :: r) M := r_nx (by decide +kernel : decode (mB 161) 5 = .ok (.iconst 1, 1)) rfl rfl
theorem t161_6 : rn 161 6 (a0 :: a1 :: a2 :: a3 :: a4 :: a5 :: a6 :: l) (.int x :: r) M = rn 161 8 (a0 :: a1 :: a2 :: a3 :: a4 :: a5 :: some (.int x) :: l) r M := r_istore (by decide +kernel : decode (mB 161) 6 = .ok (.istore 6, 2)) (Nat.le_add_left 7 l.length)
theorem t161_8 : rn 161 8 (a0 :: a1 :: a2 :: some (.int x) :: l) r M = rn 161 9 (a0 :: a1 :: a2 :: some (.int x) :: l) (.int x :: r) M := r_iload_n (by decide +kernel : decode (mB 161) 8 = .ok (.iload_n 3, 1)) rfl
theorem t161_9 : rn 161 9 ls r M = rn 161 11 ls (.int 8 :: r) M := r_nx (by decide +kernel : decode (mB 161) 9 = .ok (.bipush 8, 2)) rfl rfl
theorem t161_11 : rn 161 11 ls (.int y :: .int x :: r) M = if y ≤ x then rn 161 67 ls r M else rn 161 14 ls r M := r_if (o := 56) (r := r) (c := y ≤ x) (by decide +kernel : decode (mB 161) 11 = .ok (.if_icmp .ge 56, 3)) rfl (by decide) rfl
theorem t161_14 : rn 161 14 (a0 :: a1 :: a2 :: a3 :: some (.long u) :: none :: l) r M = rn 161 16 (a0 :: a1 :: a2 :: a3 :: some (.long u) :: none :: l) (.long u :: r) M := r_lload (by decide +kernel : decode (mB 161) 14 = .ok (.lload 4, 2)) rfl rfl
theorem t161_16 : rn 161 16 ls r M = rn 161 19 ls (.long 255 :: r) M := r_nx (by decide +kernel : decode (mB 161) 16 = .ok (.ldc2_w 190, 3)) rfl rfl
theorem t161_19 : rn 161 19 ls (.long v :: .long u :: r) M = rn 161 20 ls (.long (u &&& v) :: r) M := r_nx (by decide +kernel : decode (mB 161) 19 = .ok (.land, 1)) rfl rfl
theorem t161_20 : rn 161 20 ls r M = rn 161 21 ls (.long 0 :: r) M := r_nx (by decide +kernel : decode (mB 161) 20 = .ok (.lconst 0, 1)) rfl rfl
theorem t161_21 : rn 161 21 ls (.long v :: .long u :: r) M = rn 161 22 ls (.int (lg_cmp u v) :: r) M := r_nx (by decide +kernel : decode (mB 161) 21 = .ok (.lcmp, 1)) rfl rfl
theorem t161_22 : rn 161 22 ls (.int x :: r) M = if x = 0 then rn 161 67 ls r M else rn 161 25 ls r M := r_if (o := 45) (r := r) (c := x = 0) (by decide +kernel : decode (mB 161) 22 = .ok (.ifCond .eq 45, 3)) rfl (by decide) rfl
theorem t161_25 : rn 161 25 (a0 :: a1 :: a2 :: a3 :: a4 :: a5 :: some (.int x) :: l) r M = rn 161 27 (a0 :: a1 :: a2 :: a3 :: a4 :: a5 :: some (.int x) :: l) (.int x :: r) M := r_iload (by decide +kernel : decode (mB 161) 25 = .ok (.iload 6, 2)) rfl
theorem t161_27 : rn 161 27 ls (.int x :: r) M = if x = 0 then rn 161 51 ls r M else rn 161 30 ls r M := r_if (o := 24) (r := r) (c := x = 0) (by decide +kernel : decode (mB 161) 27 = .ok (.ifCond .eq 24, 3)) rfl (by decide) rfl
theorem t161_30 : rn 161 30 (a0 :: a1 :: a2 :: a3 :: some (.long u) :: none :: l) r M = rn 161 32 (a0 :: a1 :: a2 :: a3 :: some (.long u) :: none :: l) (.long u :: r) M := r_lload (by decide +kernel : decode (mB 161) 30 = .ok (.lload 4, 2)) rfl rfl
theorem t161_32 : rn 161 32 ls r M = rn 161 35 ls (.long 255 :: r) M := r_nx (by decide +kernel : decode (mB 161) 32 = .ok (.ldc2_w 190, 3)) rfl rfl
theorem t161_35 : rn 161 35 ls (.long v :: .long u :: r) M = rn 161 36 ls (.long (u &&& v) :: r) M := r_nx (by decide +kernel : decode (mB 161) 35 = .ok (.land, 1)) rfl rfl
theorem t161_36 : rn 161 36 ls (.long u :: r) M = rn 161 37 ls (.int u.toInt32 :: r) M := r_nx (by decide +kernel : decode (mB 161) 36 = .ok (.l2i, 1)) rfl rfl
theorem t161_37 : rn 161 37 ls r M = rn 161 39 ls (.int 33 :: r) M := r_nx (by decide +kernel : decode (mB 161) 37 = .ok (.bipush 33, 2)) rfl rfl
theorem t161_39 : rn 161 39 ls r M = rn 161 41 ls (.int 126 :: r) M := r_nx (by decide +kernel : decode (mB 161) 39 = .ok (.bipush 126, 2)) rfl rfl
theorem t161_41 : rn 161 41 ls [.int x, .int y, .int z] M = cbn (cl 104 [.int z, .int y, .int x] M) 161 44 ls [] := r_callS (kd := 2) (by decide +kernel : decode (mB 161) 41 = .ok (.invokestatic 49, 3)) (by decide +kernel) (by decide +kernel) ((doS_n np_104).trans rfl)
theorem t161_44 : rn 161 44 ls (.int x :: r) M = if x = 0 then rn 161 51 ls r M else rn 161 47 ls r M := r_if (o := 7) (r := r) (c := x = 0) (by decide +kernel : decode (mB 161) 44 = .ok (.ifCond .eq 7, 3)) rfl (by decide) rfl
theorem t161_47 : rn 161 47 ls r M = rn 161 48 ls (.int 1 :: r) M := r_nx (by decide +kernel : decode (mB 161) 47 = .ok (.iconst 1, 1)) rfl rfl
theorem t161_48 : rn 161 48 ls r M = rn 161 52 ls r M := r_goto (o := 4) (by decide +kernel : decode (mB 161) 48 = .ok (.goto 4, 3)) (by decide)
theorem t161_51 : rn 161 51 ls r M = rn 161 52 ls (.int 0 :: r) M := r_nx (by decide +kernel : decode (mB 161) 51 = .ok (.iconst 0, 1)) rfl rfl
theorem t161_52 : rn 161 52 (a0 :: a1 :: a2 :: a3 :: a4 :: a5 :: a6 :: l) (.int x :: r) M = rn 161 54 (a0 :: a1 :: a2 :: a3 :: a4 :: a5 :: some (.int x) :: l) r M := r_istore (by decide +kernel : decode (mB 161) 52 = .ok (.istore 6, 2)) (Nat.le_add_left 7 l.length)
theorem t161_54 : rn 161 54 (a0 :: a1 :: a2 :: a3 :: some (.long u) :: none :: l) r M = rn 161 56 (a0 :: a1 :: a2 :: a3 :: some (.long u) :: none :: l) (.long u :: r) M := r_lload (by decide +kernel : decode (mB 161) 54 = .ok (.lload 4, 2)) rfl rfl
theorem t161_56 : rn 161 56 ls r M = rn 161 58 ls (.int 8 :: r) M := r_nx (by decide +kernel : decode (mB 161) 56 = .ok (.bipush 8, 2)) rfl rfl
theorem t161_58 : rn 161 58 ls (.int y :: .long u :: r) M = rn 161 59 ls (.long ((u.toUInt64 >>> (y.toInt64.toUInt64 &&& Int64.toUInt64 63)).toInt64) :: r) M := r_nx (by decide +kernel : decode (mB 161) 58 = .ok (.lushr, 1)) rfl rfl
theorem t161_59 : rn 161 59 (a0 :: a1 :: a2 :: a3 :: a4 :: a5 :: l) (.long u :: r) M = rn 161 61 (a0 :: a1 :: a2 :: a3 :: some (.long u) :: none :: l) r M := r_lstore (by decide +kernel : decode (mB 161) 59 = .ok (.lstore 4, 2)) (Nat.le_add_left 6 l.length)
theorem t161_61 : rn 161 61 (a0 :: a1 :: a2 :: some (.int x) :: l) r M = rn 161 64 (a0 :: a1 :: a2 :: some (.int (x + 1)) :: l) r M := r_iinc (by decide +kernel : decode (mB 161) 61 = .ok (.iinc 3 1, 3)) rfl
theorem t161_64 : rn 161 64 ls r M = rn 161 8 ls r M := r_goto (o := (-56)) (by decide +kernel : decode (mB 161) 64 = .ok (.goto (-56), 3)) (by decide)
theorem t161_67 : rn 161 67 (a0 :: a1 :: a2 :: some (.int x) :: l) r M = rn 161 68 (a0 :: a1 :: a2 :: some (.int x) :: l) (.int x :: r) M := r_iload_n (by decide +kernel : decode (mB 161) 67 = .ok (.iload_n 3, 1)) rfl
theorem t161_68 : rn 161 68 ls (.int x :: r) M = if x = 0 then rn 161 83 ls r M else rn 161 71 ls r M := r_if (o := 15) (r := r) (c := x = 0) (by decide +kernel : decode (mB 161) 68 = .ok (.ifCond .eq 15, 3)) rfl (by decide) rfl
theorem t161_71 : rn 161 71 (a0 :: a1 :: a2 :: a3 :: a4 :: a5 :: some (.int x) :: l) r M = rn 161 73 (a0 :: a1 :: a2 :: a3 :: a4 :: a5 :: some (.int x) :: l) (.int x :: r) M := r_iload (by decide +kernel : decode (mB 161) 71 = .ok (.iload 6, 2)) rfl
theorem t161_73 : rn 161 73 ls (.int x :: r) M = if x = 0 then rn 161 83 ls r M else rn 161 76 ls r M := r_if (o := 10) (r := r) (c := x = 0) (by decide +kernel : decode (mB 161) 73 = .ok (.ifCond .eq 10, 3)) rfl (by decide) rfl
theorem t161_76 : rn 161 76 (a0 :: a1 :: a2 :: a3 :: some (.long u) :: none :: l) r M = rn 161 78 (a0 :: a1 :: a2 :: a3 :: some (.long u) :: none :: l) (.long u :: r) M := r_lload (by decide +kernel : decode (mB 161) 76 = .ok (.lload 4, 2)) rfl rfl
theorem t161_78 : rn 161 78 ls r M = rn 161 79 ls (.long 0 :: r) M := r_nx (by decide +kernel : decode (mB 161) 78 = .ok (.lconst 0, 1)) rfl rfl
theorem t161_79 : rn 161 79 ls (.long v :: .long u :: r) M = rn 161 80 ls (.int (lg_cmp u v) :: r) M := r_nx (by decide +kernel : decode (mB 161) 79 = .ok (.lcmp, 1)) rfl rfl
theorem t161_80 : rn 161 80 ls (.int x :: r) M = if x = 0 then rn 161 86 ls r M else rn 161 83 ls r M := r_if (o := 6) (r := r) (c := x = 0) (by decide +kernel : decode (mB 161) 80 = .ok (.ifCond .eq 6, 3)) rfl (by decide) rfl
theorem t161_83 : rn 161 83 ls r M = rn 161 85 ls (.int (-2) :: r) M := r_nx (by decide +kernel : decode (mB 161) 83 = .ok (.bipush (-2), 2)) rfl rfl
theorem t161_85 : rn 161 85 ls [.int x] M = some (some (.int x), M) := r_ireturn (by decide +kernel : decode (mB 161) 85 = .ok (.ireturn, 1)) rfl
theorem t161_86 : rn 161 86 (some (.ref a) :: l) r M = rn 161 87 (some (.ref a) :: l) (.ref a :: r) M := r_aload_n (by decide +kernel : decode (mB 161) 86 = .ok (.aload_n 0, 1)) rfl
theorem t161_87 : rn 161 87 ls (.ref a :: r) M = if mK M a = (19, 0) then rn 161 90 ls (.int (mI M a 7) :: r) M else none := r_getI (ci := 9) (k := 7) (by decide +kernel : decode (mB 161) 87 = .ok (.getfield 185, 3)) (by decide +kernel) (Or.inl rfl)
theorem t161_90 : rn 161 90 (a0 :: a1 :: a2 :: some (.int x) :: l) r M = rn 161 91 (a0 :: a1 :: a2 :: some (.int x) :: l) (.int x :: r) M := r_iload_n (by decide +kernel : decode (mB 161) 90 = .ok (.iload_n 3, 1)) rfl
theorem t161_91 : rn 161 91 ls (.int y :: .int x :: r) M = rn 161 92 ls (.int (x + y) :: r) M := r_nx (by decide +kernel : decode (mB 161) 91 = .ok (.iadd, 1)) rfl rfl
theorem t161_92 : rn 161 92 ls r M = rn 161 94 ls (.int 80 :: r) M := r_nx (by decide +kernel : decode (mB 161) 92 = .ok (.bipush 80, 2)) rfl rfl
theorem t161_94 : rn 161 94 ls (.int y :: .int x :: r) M = if x ≤ y then rn 161 100 ls r M else rn 161 97 ls r M := r_if (o := 6) (r := r) (c := x ≤ y) (by decide +kernel : decode (mB 161) 94 = .ok (.if_icmp .le 6, 3)) rfl (by decide) rfl
theorem t161_97 : rn 161 97 ls r M = rn 161 99 ls (.int (-4) :: r) M := r_nx (by decide +kernel : decode (mB 161) 97 = .ok (.bipush (-4), 2)) rfl rfl
theorem t161_99 : rn 161 99 ls [.int x] M = some (some (.int x), M) := r_ireturn (by decide +kernel : decode (mB 161) 99 = .ok (.ireturn, 1)) rfl
theorem t161_100 : rn 161 100 (a0 :: a1 :: a2 :: some (.int x) :: l) r M = rn 161 101 (a0 :: a1 :: a2 :: some (.int x) :: l) (.int x :: r) M := r_iload_n (by decide +kernel : decode (mB 161) 100 = .ok (.iload_n 3, 1)) rfl
theorem t161_101 : rn 161 101 ls r M = rn 161 102 ls (.int 1 :: r) M := r_nx (by decide +kernel : decode (mB 161) 101 = .ok (.iconst 1, 1)) rfl rfl
theorem t161_102 : rn 161 102 ls (.int y :: .int x :: r) M = rn 161 103 ls (.int (x - y) :: r) M := r_nx (by decide +kernel : decode (mB 161) 102 = .ok (.isub, 1)) rfl rfl
theorem t161_103 : rn 161 103 (a0 :: a1 :: a2 :: a3 :: a4 :: a5 :: a6 :: a7 :: l) (.int x :: r) M = rn 161 105 (a0 :: a1 :: a2 :: a3 :: a4 :: a5 :: a6 :: some (.int x) :: l) r M := r_istore (by decide +kernel : decode (mB 161) 103 = .ok (.istore 7, 2)) (Nat.le_add_left 8 l.length)
theorem t161_105 : rn 161 105 (a0 :: a1 :: a2 :: a3 :: a4 :: a5 :: a6 :: some (.int x) :: l) r M = rn 161 107 (a0 :: a1 :: a2 :: a3 :: a4 :: a5 :: a6 :: some (.int x) :: l) (.int x :: r) M := r_iload (by decide +kernel : decode (mB 161) 105 = .ok (.iload 7, 2)) rfl
theorem t161_107 : rn 161 107 ls (.int x :: r) M = if x < 0 then rn 161 147 ls r M else rn 161 110 ls r M := r_if (o := 40) (r := r) (c := x < 0) (by decide +kernel : decode (mB 161) 107 = .ok (.ifCond .lt 40, 3)) rfl (by decide) rfl
theorem t161_110 : rn 161 110 (some (.ref a) :: l) r M = rn 161 111 (some (.ref a) :: l) (.ref a :: r) M := r_aload_n (by decide +kernel : decode (mB 161) 110 = .ok (.aload_n 0, 1)) rfl
theorem t161_111 : rn 161 111 ls (.ref a :: r) M = if mK M a = (19, 0) then rn 161 114 ls (va_rf (mP M a 6) :: r) M else none := r_getP (ci := 9) (k := 6) (by decide +kernel : decode (mB 161) 111 = .ok (.getfield 25, 3)) (by decide +kernel) rfl
theorem t161_114 : rn 161 114 (some (.ref a) :: l) r M = rn 161 115 (some (.ref a) :: l) (.ref a :: r) M := r_aload_n (by decide +kernel : decode (mB 161) 114 = .ok (.aload_n 0, 1)) rfl
theorem t161_115 : rn 161 115 ls (.ref a :: r) M = if mK M a = (19, 0) then rn 161 118 ls (.int (mI M a 7) :: r) M else none := r_getI (ci := 9) (k := 7) (by decide +kernel : decode (mB 161) 115 = .ok (.getfield 185, 3)) (by decide +kernel) (Or.inl rfl)
theorem t161_118 : rn 161 118 (a0 :: some (.long u) :: none :: l) r M = rn 161 119 (a0 :: some (.long u) :: none :: l) (.long u :: r) M := r_lload_n (by decide +kernel : decode (mB 161) 118 = .ok (.lload_n 1, 1)) rfl rfl
theorem t161_119 : rn 161 119 ls r M = rn 161 121 ls (.int 8 :: r) M := r_nx (by decide +kernel : decode (mB 161) 119 = .ok (.bipush 8, 2)) rfl rfl
theorem t161_121 : rn 161 121 (a0 :: a1 :: a2 :: a3 :: a4 :: a5 :: a6 :: some (.int x) :: l) r M = rn 161 123 (a0 :: a1 :: a2 :: a3 :: a4 :: a5 :: a6 :: some (.int x) :: l) (.int x :: r) M := r_iload (by decide +kernel : decode (mB 161) 121 = .ok (.iload 7, 2)) rfl
theorem t161_123 : rn 161 123 ls (.int y :: .int x :: r) M = rn 161 124 ls (.int (x * y) :: r) M := r_nx (by decide +kernel : decode (mB 161) 123 = .ok (.imul, 1)) rfl rfl
theorem t161_124 : rn 161 124 ls (.int y :: .long u :: r) M = rn 161 125 ls (.long ((u.toUInt64 >>> (y.toInt64.toUInt64 &&& Int64.toUInt64 63)).toInt64) :: r) M := r_nx (by decide +kernel : decode (mB 161) 124 = .ok (.lushr, 1)) rfl rfl
theorem t161_125 : rn 161 125 ls r M = rn 161 128 ls (.long 255 :: r) M := r_nx (by decide +kernel : decode (mB 161) 125 = .ok (.ldc2_w 190, 3)) rfl rfl
theorem t161_128 : rn 161 128 ls (.long v :: .long u :: r) M = rn 161 129 ls (.long (u &&& v) :: r) M := r_nx (by decide +kernel : decode (mB 161) 128 = .ok (.land, 1)) rfl rfl
theorem t161_129 : rn 161 129 ls (.long u :: r) M = rn 161 130 ls (.int u.toInt32 :: r) M := r_nx (by decide +kernel : decode (mB 161) 129 = .ok (.l2i, 1)) rfl rfl
theorem t161_130 : rn 161 130 ls (.int y :: .int x :: .ref a :: r) M = if (mK M a).1 = 1 ∧ inR x (mK M a).2 then rn 161 131 ls r (sI M a (va_up (mI M a) x.toNatClampNeg y)) else none := r_cnd (by decide +kernel : decode (mB 161) 130 = .ok (.iastore, 1)) rfl rfl
theorem t161_131 : rn 161 131 (some (.ref a) :: l) r M = rn 161 132 (some (.ref a) :: l) (.ref a :: r) M := r_aload_n (by decide +kernel : decode (mB 161) 131 = .ok (.aload_n 0, 1)) rfl
theorem t161_132 : rn 161 132 ls (.ref a :: r) M = rn 161 133 ls (.ref a :: .ref a :: r) M := r_nx (by decide +kernel : decode (mB 161) 132 = .ok (.dup, 1)) rfl rfl
theorem t161_133 : rn 161 133 ls (.ref a :: r) M = if mK M a = (19, 0) then rn 161 136 ls (.int (mI M a 7) :: r) M else none := r_getI (ci := 9) (k := 7) (by decide +kernel : decode (mB 161) 133 = .ok (.getfield 185, 3)) (by decide +kernel) (Or.inl rfl)
theorem t161_136 : rn 161 136 ls r M = rn 161 137 ls (.int 1 :: r) M := r_nx (by decide +kernel : decode (mB 161) 136 = .ok (.iconst 1, 1)) rfl rfl
theorem t161_137 : rn 161 137 ls (.int y :: .int x :: r) M = rn 161 138 ls (.int (x + y) :: r) M := r_nx (by decide +kernel : decode (mB 161) 137 = .ok (.iadd, 1)) rfl rfl
theorem t161_138 : rn 161 138 ls (.int x :: .ref a :: r) M = if mK M a = (19, 0) then rn 161 141 ls r (sI M a (va_up (mI M a) 7 x)) else none := r_putI (ci := 9) (k := 7) (by decide +kernel : decode (mB 161) 138 = .ok (.putfield 185, 3)) (by decide +kernel) rfl rfl
theorem t161_141 : rn 161 141 (a0 :: a1 :: a2 :: a3 :: a4 :: a5 :: a6 :: some (.int x) :: l) r M = rn 161 144 (a0 :: a1 :: a2 :: a3 :: a4 :: a5 :: a6 :: some (.int (x + (-1))) :: l) r M := r_iinc (by decide +kernel : decode (mB 161) 141 = .ok (.iinc 7 (-1), 3)) rfl
theorem t161_144 : rn 161 144 ls r M = rn 161 105 ls r M := r_goto (o := (-39)) (by decide +kernel : decode (mB 161) 144 = .ok (.goto (-39), 3)) (by decide)
theorem t161_147 : rn 161 147 (some (.ref a) :: l) r M = rn 161 148 (some (.ref a) :: l) (.ref a :: r) M := r_aload_n (by decide +kernel : decode (mB 161) 147 = .ok (.aload_n 0, 1)) rfl
theorem t161_148 : rn 161 148 ls (.ref a :: r) M = if mK M a = (19, 0) then rn 161 151 ls (.int (mI M a 7) :: r) M else none := r_getI (ci := 9) (k := 7) (by decide +kernel : decode (mB 161) 148 = .ok (.getfield 185, 3)) (by decide +kernel) (Or.inl rfl)
theorem t161_151 : rn 161 151 ls [.int x] M = some (some (.int x), M) := r_ireturn (by decide +kernel : decode (mB 161) 151 = .ok (.ireturn, 1)) rfl
-- 162 DRModel_wipe()I
theorem t162_0 : rn 162 0 (some (.ref a) :: l) r M = rn 162 1 (some (.ref a) :: l) (.ref a :: r) M := r_aload_n (by decide +kernel : decode (mB 162) 0 = .ok (.aload_n 0, 1)) rfl
theorem t162_1 : rn 162 1 ls (.ref a :: r) M = if mK M a = (19, 0) then rn 162 4 ls (.int (mI M a 7) :: r) M else none := r_getI (ci := 9) (k := 7) (by decide +kernel : decode (mB 162) 1 = .ok (.getfield 185, 3)) (by decide +kernel) (Or.inl rfl)
theorem t162_4 : rn 162 4 (a0 :: a1 :: l) (.int x :: r) M = rn 162 5 (a0 :: some (.int x) :: l) r M := r_istore_n (by decide +kernel : decode (mB 162) 4 = .ok (.istore_n 1, 1)) (Nat.le_add_left 2 l.length)
theorem t162_5 : rn 162 5 (some (.ref a) :: l) r M = rn 162 6 (some (.ref a) :: l) (.ref a :: r) M := r_aload_n (by decide +kernel : decode (mB 162) 5 = .ok (.aload_n 0, 1)) rfl
theorem t162_6 : rn 162 6 ls r M = rn 162 7 ls (.int 0 :: r) M := r_nx (by decide +kernel : decode (mB 162) 6 = .ok (.iconst 0, 1)) rfl rfl
theorem t162_7 : rn 162 7 ls (.int x :: .ref a :: r) M = if mK M a = (19, 0) then rn 162 10 ls r (sI M a (va_up (mI M a) 7 x)) else none := r_putI (ci := 9) (k := 7) (by decide +kernel : decode (mB 162) 7 = .ok (.putfield 185, 3)) (by decide +kernel) rfl rfl
theorem t162_10 : rn 162 10 (a0 :: some (.int x) :: l) r M = rn 162 11 (a0 :: some (.int x) :: l) (.int x :: r) M := r_iload_n (by decide +kernel : decode (mB 162) 10 = .ok (.iload_n 1, 1)) rfl
theorem t162_11 : rn 162 11 ls [.int x] M = some (some (.int x), M) := r_ireturn (by decide +kernel : decode (mB 162) 11 = .ok (.ireturn, 1)) rfl
-- 163 DRModel_fault()I
theorem t163_0 : rn 163 0 (some (.ref a) :: l) r M = rn 163 1 (some (.ref a) :: l) (.ref a :: r) M := r_aload_n (by decide +kernel : decode (mB 163) 0 = .ok (.aload_n 0, 1)) rfl
theorem t163_1 : rn 163 1 ls [.ref a] M = if mK M a = (19, 0) then cbn (cl 164 [.ref a] M) 163 4 ls [] else none := r_callV (kd := 0) (by decide +kernel : decode (mB 163) 1 = .ok (.invokevirtual 220, 3)) (by decide +kernel) ((doV_n np_164).trans rfl)
theorem t163_4 : rn 163 4 ls [.int x] M = some (some (.int x), M) := r_ireturn (by decide +kernel : decode (mB 163) 4 = .ok (.ireturn, 1)) rfl
-- 164 DRModel_findFault()I
theorem t164_0 : rn 164 0 (some (.ref a) :: l) r M = rn 164 1 (some (.ref a) :: l) (.ref a :: r) M := r_aload_n (by decide +kernel : decode (mB 164) 0 = .ok (.aload_n 0, 1)) rfl
theorem t164_1 : rn 164 1 ls r M = rn 164 2 ls (.int 0 :: r) M := r_nx (by decide +kernel : decode (mB 164) 1 = .ok (.iconst 0, 1)) rfl rfl
theorem t164_2 : rn 164 2 ls (.int x :: .ref a :: r) M = if mK M a = (19, 0) then rn 164 5 ls r (sI M a (va_up (mI M a) 11 x)) else none := r_putI (ci := 9) (k := 11) (by decide +kernel : decode (mB 164) 2 = .ok (.putfield 192, 3)) (by decide +kernel) rfl rfl
theorem t164_5 : rn 164 5 (some (.ref a) :: l) r M = rn 164 6 (some (.ref a) :: l) (.ref a :: r) M := r_aload_n (by decide +kernel : decode (mB 164) 5 = .ok (.aload_n 0, 1)) rfl
theorem t164_6 : rn 164 6 ls [.ref a] M = if mK M a = (19, 0) then cbn (cl 165 [.ref a] M) 164 9 ls [] else none := r_callV (kd := 0) (by decide +kernel : decode (mB 164) 6 = .ok (.invokevirtual 216, 3)) (by decide +kernel) ((doV_n np_165).trans rfl)
theorem t164_9 : rn 164 9 ls (.int x :: r) M = if ¬ x = 0 then rn 164 17 ls r M else rn 164 12 ls r M := r_if (o := 8) (r := r) (c := ¬ x = 0) (by decide +kernel : decode (mB 164) 9 = .ok (.ifCond .ne 8, 3)) rfl (by decide) rfl
theorem t164_12 : rn 164 12 (some (.ref a) :: l) r M = rn 164 13 (some (.ref a) :: l) (.ref a :: r) M := r_aload_n (by decide +kernel : decode (mB 164) 12 = .ok (.aload_n 0, 1)) rfl
theorem t164_13 : rn 164 13 ls (.ref a :: r) M = if mK M a = (19, 0) then rn 164 16 ls (.int (mI M a 11) :: r) M else none := r_getI (ci := 9) (k := 11) (by decide +kernel : decode (mB 164) 13 = .ok (.getfield 192, 3)) (by decide +kernel) (Or.inl rfl)
theorem t164_16 : rn 164 16 ls [.int x] M = some (some (.int x), M) := r_ireturn (by decide +kernel : decode (mB 164) 16 = .ok (.ireturn, 1)) rfl
theorem t164_17 : rn 164 17 (some (.ref a) :: l) r M = rn 164 18 (some (.ref a) :: l) (.ref a :: r) M := r_aload_n (by decide +kernel : decode (mB 164) 17 = .ok (.aload_n 0, 1)) rfl
theorem t164_18 : rn 164 18 ls (.ref a :: r) M = if mK M a = (19, 0) then rn 164 21 ls (.int (mI M a 11) :: r) M else none := r_getI (ci := 9) (k := 11) (by decide +kernel : decode (mB 164) 18 = .ok (.getfield 192, 3)) (by decide +kernel) (Or.inl rfl)
theorem t164_21 : rn 164 21 (some (.ref a) :: l) r M = rn 164 22 (some (.ref a) :: l) (.ref a :: r) M := r_aload_n (by decide +kernel : decode (mB 164) 21 = .ok (.aload_n 0, 1)) rfl
theorem t164_22 : rn 164 22 ls (.ref a :: r) M = if mK M a = (19, 0) then rn 164 25 ls (.int (mI M a 7) :: r) M else none := r_getI (ci := 9) (k := 7) (by decide +kernel : decode (mB 164) 22 = .ok (.getfield 185, 3)) (by decide +kernel) (Or.inl rfl)
theorem t164_25 : rn 164 25 ls (.int y :: .int x :: r) M = if ¬ x = y then rn 164 31 ls r M else rn 164 28 ls r M := r_if (o := 6) (r := r) (c := ¬ x = y) (by decide +kernel : decode (mB 164) 25 = .ok (.if_icmp .ne 6, 3)) rfl (by decide) rfl
theorem t164_28 : rn 164 28 ls r M = rn 164 30 ls (.int (-6) :: r) M := r_nx (by decide +kernel : decode (mB 164) 28 = .ok (.bipush (-6), 2)) rfl rfl
theorem t164_30 : rn 164 30 ls [.int x] M = some (some (.int x), M) := r_ireturn (by decide +kernel : decode (mB 164) 30 = .ok (.ireturn, 1)) rfl
theorem t164_31 : rn 164 31 (some (.ref a) :: l) r M = rn 164 32 (some (.ref a) :: l) (.ref a :: r) M := r_aload_n (by decide +kernel : decode (mB 164) 31 = .ok (.aload_n 0, 1)) rfl
theorem t164_32 : rn 164 32 ls r M = rn 164 34 ls (.int 59 :: r) M := r_nx (by decide +kernel : decode (mB 164) 32 = .ok (.bipush 59, 2)) rfl rfl
theorem t164_34 : rn 164 34 ls [.int x, .ref a] M = if mK M a = (19, 0) then cbn (cl 168 [.ref a, .int x] M) 164 37 ls [] else none := r_callV (kd := 0) (by decide +kernel : decode (mB 164) 34 = .ok (.invokevirtual 207, 3)) (by decide +kernel) ((doV_n np_168).trans rfl)
theorem t164_37 : rn 164 37 ls (.int x :: r) M = if ¬ x = 0 then rn 164 5 ls r M else rn 164 40 ls r M := r_if (o := (-32)) (r := r) (c := ¬ x = 0) (by decide +kernel : decode (mB 164) 37 = .ok (.ifCond .ne (-32), 3)) rfl (by decide) rfl
theorem t164_40 : rn 164 40 (some (.ref a) :: l) r M = rn 164 41 (some (.ref a) :: l) (.ref a :: r) M := r_aload_n (by decide +kernel : decode (mB 164) 40 = .ok (.aload_n 0, 1)) rfl
theorem t164_41 : rn 164 41 ls (.ref a :: r) M = if mK M a = (19, 0) then rn 164 44 ls (.int (mI M a 11) :: r) M else none := r_getI (ci := 9) (k := 11) (by decide +kernel : decode (mB 164) 41 = .ok (.getfield 192, 3)) (by decide +kernel) (Or.inl rfl)
theorem t164_44 : rn 164 44 ls [.int x] M = some (some (.int x), M) := r_ireturn (by decide +kernel : decode (mB 164) 44 = .ok (.ireturn, 1)) rfl
-- 165 DRModel_readsOrder()Z
theorem t165_0 : rn 165 0 (some (.ref a) :: l) r M = rn 165 1 (some (.ref a) :: l) (.ref a :: r) M := r_aload_n (by decide +kernel : decode (mB 165) 0 = .ok (.aload_n 0, 1)) rfl
theorem t165_1 : rn 165 1 (some (.ref a) :: l) r M = rn 165 2 (some (.ref a) :: l) (.ref a :: r) M := r_aload_n (by decide +kernel : decode (mB 165) 1 = .ok (.aload_n 0, 1)) rfl
theorem t165_2 : rn 165 2 (some (.ref a) :: l) r M = rn 165 3 (some (.ref a) :: l) (.ref a :: r) M := r_aload_n (by decide +kernel : decode (mB 165) 2 = .ok (.aload_n 0, 1)) rfl
theorem t165_3 : rn 165 3 ls (.ref a :: r) M = if mK M a = (19, 0) then rn 165 6 ls (.int (mI M a 11) :: r) M else none := r_getI (ci := 9) (k := 11) (by decide +kernel : decode (mB 165) 3 = .ok (.getfield 192, 3)) (by decide +kernel) (Or.inl rfl)
theorem t165_6 : rn 165 6 ls [.int x, .ref a, .ref b] M = if mK M a = (19, 0) then cbn (cl 166 [.ref a, .int x] M) 165 9 ls [.ref b] else none := r_callV (kd := 0) (by decide +kernel : decode (mB 165) 6 = .ok (.invokevirtual 195, 3)) (by decide +kernel) ((doV_n np_166).trans rfl)
theorem t165_9 : rn 165 9 ls (.int x :: .ref a :: r) M = if mK M a = (19, 0) then rn 165 12 ls r (sI M a (va_up (mI M a) 12 x)) else none := r_putI (ci := 9) (k := 12) (by decide +kernel : decode (mB 165) 9 = .ok (.putfield 198, 3)) (by decide +kernel) rfl rfl
theorem t165_12 : rn 165 12 (some (.ref a) :: l) r M = rn 165 13 (some (.ref a) :: l) (.ref a :: r) M := r_aload_n (by decide +kernel : decode (mB 165) 12 = .ok (.aload_n 0, 1)) rfl
theorem t165_13 : rn 165 13 ls (.ref a :: r) M = rn 165 14 ls (.ref a :: .ref a :: r) M := r_nx (by decide +kernel : decode (mB 165) 13 = .ok (.dup, 1)) rfl rfl
theorem t165_14 : rn 165 14 ls (.ref a :: r) M = if mK M a = (19, 0) then rn 165 17 ls (.int (mI M a 11) :: r) M else none := r_getI (ci := 9) (k := 11) (by decide +kernel : decode (mB 165) 14 = .ok (.getfield 192, 3)) (by decide +kernel) (Or.inl rfl)
theorem t165_17 : rn 165 17 ls r M = rn 165 18 ls (.int 1 :: r) M := r_nx (by decide +kernel : decode (mB 165) 17 = .ok (.iconst 1, 1)) rfl rfl
theorem t165_18 : rn 165 18 ls (.int y :: .int x :: r) M = rn 165 19 ls (.int (x + y) :: r) M := r_nx (by decide +kernel : decode (mB 165) 18 = .ok (.iadd, 1)) rfl rfl
theorem t165_19 : rn 165 19 ls (.int x :: .ref a :: r) M = if mK M a = (19, 0) then rn 165 22 ls r (sI M a (va_up (mI M a) 11 x)) else none := r_putI (ci := 9) (k := 11) (by decide +kernel : decode (mB 165) 19 = .ok (.putfield 192, 3)) (by decide +kernel) rfl rfl
theorem t165_22 : rn 165 22 (some (.ref a) :: l) r M = rn 165 23 (some (.ref a) :: l) (.ref a :: r) M := r_aload_n (by decide +kernel : decode (mB 165) 22 = .ok (.aload_n 0, 1)) rfl
theorem t165_23 : rn 165 23 ls (.ref a :: r) M = if mK M a = (19, 0) then rn 165 26 ls (.int (mI M a 12) :: r) M else none := r_getI (ci := 9) (k := 12) (by decide +kernel : decode (mB 165) 23 = .ok (.getfield 198, 3)) (by decide +kernel) (Or.inl rfl)
theorem t165_26 : rn 165 26 ls (.int x :: r) M = if x = 100 then rn 165 218 ls r M else if x = 102 then rn 165 239 ls r M else if x = 108 then rn 165 239 ls r M else if x = 109 then rn 165 120 ls r M else if x = 110 then rn 165 260 ls r M else if x = 114 then rn 165 309 ls r M else if x = 118 then rn 165 120 ls r M else if x = 119 then rn 165 169 ls r M else rn 165 311 ls r M := by
  have D := (by decide +kernel : decode (mB 165) 26 = .ok (.tableswitch 285 100 119 #[192, 285, 213, 285, 285, 285, 285, 285, 213, 94, 234, 285, 285, 285, 283, 285, 285, 285, 94, 143], 94))
  by_cases h0 : x = 100
  · rw [h0, r_tab D]; rfl
  by_cases h1 : x = 101
  · rw [h1, r_tab D]; rfl
  by_cases h2 : x = 102
  · rw [h2, r_tab D]; rfl
  by_cases h3 : x = 103
  · rw [h3, r_tab D]; rfl
  by_cases h4 : x = 104
  · rw [h4, r_tab D]; rfl
  by_cases h5 : x = 105
  · rw [h5, r_tab D]; rfl
  by_cases h6 : x = 106
  · rw [h6, r_tab D]; rfl
  by_cases h7 : x = 107
  · rw [h7, r_tab D]; rfl
  by_cases h8 : x = 108
  · rw [h8, r_tab D]; rfl
  by_cases h9 : x = 109
  · rw [h9, r_tab D]; rfl
  by_cases h10 : x = 110
  · rw [h10, r_tab D]; rfl
  by_cases h11 : x = 111
  · rw [h11, r_tab D]; rfl
  by_cases h12 : x = 112
  · rw [h12, r_tab D]; rfl
  by_cases h13 : x = 113
  · rw [h13, r_tab D]; rfl
  by_cases h14 : x = 114
  · rw [h14, r_tab D]; rfl
  by_cases h15 : x = 115
  · rw [h15, r_tab D]; rfl
  by_cases h16 : x = 116
  · rw [h16, r_tab D]; rfl
  by_cases h17 : x = 117
  · rw [h17, r_tab D]; rfl
  by_cases h18 : x = 118
  · rw [h18, r_tab D]; rfl
  by_cases h19 : x = 119
  · rw [h19, r_tab D]; rfl
  rw [r_tabO D (by have e0 : x.toInt ≠ 100 := ti_ne h0; have e1 : x.toInt ≠ 101 := ti_ne h1; have e2 : x.toInt ≠ 102 := ti_ne h2; have e3 : x.toInt ≠ 103 := ti_ne h3; have e4 : x.toInt ≠ 104 := ti_ne h4; have e5 : x.toInt ≠ 105 := ti_ne h5; have e6 : x.toInt ≠ 106 := ti_ne h6; have e7 : x.toInt ≠ 107 := ti_ne h7; have e8 : x.toInt ≠ 108 := ti_ne h8; have e9 : x.toInt ≠ 109 := ti_ne h9; have e10 : x.toInt ≠ 110 := ti_ne h10; have e11 : x.toInt ≠ 111 := ti_ne h11; have e12 : x.toInt ≠ 112 := ti_ne h12; have e13 : x.toInt ≠ 113 := ti_ne h13; have e14 : x.toInt ≠ 114 := ti_ne h14; have e15 : x.toInt ≠ 115 := ti_ne h15; have e16 : x.toInt ≠ 116 := ti_ne h16; have e17 : x.toInt ≠ 117 := ti_ne h17; have e18 : x.toInt ≠ 118 := ti_ne h18; have e19 : x.toInt ≠ 119 := ti_ne h19; omega) (by decide), if_neg h0, if_neg h2, if_neg h8, if_neg h9, if_neg h10, if_neg h14, if_neg h18, if_neg h19]
  rfl
theorem t165_120 : rn 165 120 (some (.ref a) :: l) r M = rn 165 121 (some (.ref a) :: l) (.ref a :: r) M := r_aload_n (by decide +kernel : decode (mB 165) 120 = .ok (.aload_n 0, 1)) rfl
theorem t165_121 : rn 165 121 (some (.ref a) :: l) r M = rn 165 122 (some (.ref a) :: l) (.ref a :: r) M := r_aload_n (by decide +kernel : decode (mB 165) 121 = .ok (.aload_n 0, 1)) rfl
theorem t165_122 : rn 165 122 ls [.ref a, .ref b] M = if mK M a = (19, 0) then cbn (cl 167 [.ref a] M) 165 125 ls [.ref b] else none := r_callV (kd := 0) (by decide +kernel : decode (mB 165) 122 = .ok (.invokevirtual 201, 3)) (by decide +kernel) ((doV_n np_167).trans rfl)
theorem t165_125 : rn 165 125 ls (.int x :: .ref a :: r) M = if mK M a = (19, 0) then rn 165 128 ls r (sI M a (va_up (mI M a) 13 x)) else none := r_putI (ci := 9) (k := 13) (by decide +kernel : decode (mB 165) 125 = .ok (.putfield 204, 3)) (by decide +kernel) rfl rfl
theorem t165_128 : rn 165 128 (some (.ref a) :: l) r M = rn 165 129 (some (.ref a) :: l) (.ref a :: r) M := r_aload_n (by decide +kernel : decode (mB 165) 128 = .ok (.aload_n 0, 1)) rfl
theorem t165_129 : rn 165 129 (some (.ref a) :: l) r M = rn 165 130 (some (.ref a) :: l) (.ref a :: r) M := r_aload_n (by decide +kernel : decode (mB 165) 129 = .ok (.aload_n 0, 1)) rfl
theorem t165_130 : rn 165 130 ls (.ref a :: r) M = if mK M a = (19, 0) then rn 165 133 ls (.int (mI M a 13) :: r) M else none := r_getI (ci := 9) (k := 13) (by decide +kernel : decode (mB 165) 130 = .ok (.getfield 204, 3)) (by decide +kernel) (Or.inl rfl)
theorem t165_133 : rn 165 133 ls (.int x :: r) M = if x < 0 then rn 165 152 ls r M else rn 165 136 ls r M := r_if (o := 19) (r := r) (c := x < 0) (by decide +kernel : decode (mB 165) 133 = .ok (.ifCond .lt 19, 3)) rfl (by decide) rfl
theorem t165_136 : rn 165 136 (some (.ref a) :: l) r M = rn 165 137 (some (.ref a) :: l) (.ref a :: r) M := r_aload_n (by decide +kernel : decode (mB 165) 136 = .ok (.aload_n 0, 1)) rfl
theorem t165_137 : rn 165 137 ls r M = rn 165 139 ls (.int 47 :: r) M := r_nx (by decide +kernel : decode (mB 165) 137 = .ok (.bipush 47, 2)) rfl rfl
theorem t165_139 : rn 165 139 ls [.int x, .ref a, .ref b] M = if mK M a = (19, 0) then cbn (cl 168 [.ref a, .int x] M) 165 142 ls [.ref b] else none := r_callV (kd := 0) (by decide +kernel : decode (mB 165) 139 = .ok (.invokevirtual 207, 3)) (by decide +kernel) ((doV_n np_168).trans rfl)
theorem t165_142 : rn 165 142 ls (.int x :: r) M = if x = 0 then rn 165 152 ls r M else rn 165 145 ls r M := r_if (o := 10) (r := r) (c := x = 0) (by decide +kernel : decode (mB 165) 142 = .ok (.ifCond .eq 10, 3)) rfl (by decide) rfl
theorem t165_145 : rn 165 145 (some (.ref a) :: l) r M = rn 165 146 (some (.ref a) :: l) (.ref a :: r) M := r_aload_n (by decide +kernel : decode (mB 165) 145 = .ok (.aload_n 0, 1)) rfl
theorem t165_146 : rn 165 146 ls [.ref a, .ref b] M = if mK M a = (19, 0) then cbn (cl 167 [.ref a] M) 165 149 ls [.ref b] else none := r_callV (kd := 0) (by decide +kernel : decode (mB 165) 146 = .ok (.invokevirtual 201, 3)) (by decide +kernel) ((doV_n np_167).trans rfl)
theorem t165_149 : rn 165 149 ls r M = rn 165 153 ls r M := r_goto (o := 4) (by decide +kernel : decode (mB 165) 149 = .ok (.goto 4, 3)) (by decide)
theorem t165_152 : rn 165 152 ls r M = rn 165 153 ls (.int (-1) :: r) M := r_nx (by decide +kernel : decode (mB 165) 152 = .ok (.iconst (-1), 1)) rfl rfl
theorem t165_153 : rn 165 153 ls (.int x :: .ref a :: r) M = if mK M a = (19, 0) then rn 165 156 ls r (sI M a (va_up (mI M a) 14 x)) else none := r_putI (ci := 9) (k := 14) (by decide +kernel : decode (mB 165) 153 = .ok (.putfield 210, 3)) (by decide +kernel) rfl rfl
theorem t165_156 : rn 165 156 (some (.ref a) :: l) r M = rn 165 157 (some (.ref a) :: l) (.ref a :: r) M := r_aload_n (by decide +kernel : decode (mB 165) 156 = .ok (.aload_n 0, 1)) rfl
theorem t165_157 : rn 165 157 ls (.ref a :: r) M = if mK M a = (19, 0) then rn 165 160 ls (.int (mI M a 14) :: r) M else none := r_getI (ci := 9) (k := 14) (by decide +kernel : decode (mB 165) 157 = .ok (.getfield 210, 3)) (by decide +kernel) (Or.inl rfl)
theorem t165_160 : rn 165 160 ls (.int x :: r) M = if x < 0 then rn 165 167 ls r M else rn 165 163 ls r M := r_if (o := 7) (r := r) (c := x < 0) (by decide +kernel : decode (mB 165) 160 = .ok (.ifCond .lt 7, 3)) rfl (by decide) rfl
theorem t165_163 : rn 165 163 ls r M = rn 165 164 ls (.int 1 :: r) M := r_nx (by decide +kernel : decode (mB 165) 163 = .ok (.iconst 1, 1)) rfl rfl
theorem t165_164 : rn 165 164 ls r M = rn 165 168 ls r M := r_goto (o := 4) (by decide +kernel : decode (mB 165) 164 = .ok (.goto 4, 3)) (by decide)
theorem t165_167 : rn 165 167 ls r M = rn 165 168 ls (.int 0 :: r) M := r_nx (by decide +kernel : decode (mB 165) 167 = .ok (.iconst 0, 1)) rfl rfl
theorem t165_168 : rn 165 168 ls [.int x] M = if x = 0 ∨ x = 1 then some (some (.int x), M) else none := r_zreturn (by decide +kernel : decode (mB 165) 168 = .ok (.ireturn, 1)) rfl
theorem t165_169 : rn 165 169 (some (.ref a) :: l) r M = rn 165 170 (some (.ref a) :: l) (.ref a :: r) M := r_aload_n (by decide +kernel : decode (mB 165) 169 = .ok (.aload_n 0, 1)) rfl
theorem t165_170 : rn 165 170 (some (.ref a) :: l) r M = rn 165 171 (some (.ref a) :: l) (.ref a :: r) M := r_aload_n (by decide +kernel : decode (mB 165) 170 = .ok (.aload_n 0, 1)) rfl
theorem t165_171 : rn 165 171 ls [.ref a, .ref b] M = if mK M a = (19, 0) then cbn (cl 167 [.ref a] M) 165 174 ls [.ref b] else none := r_callV (kd := 0) (by decide +kernel : decode (mB 165) 171 = .ok (.invokevirtual 201, 3)) (by decide +kernel) ((doV_n np_167).trans rfl)
theorem t165_174 : rn 165 174 ls (.int x :: .ref a :: r) M = if mK M a = (19, 0) then rn 165 177 ls r (sI M a (va_up (mI M a) 13 x)) else none := r_putI (ci := 9) (k := 13) (by decide +kernel : decode (mB 165) 174 = .ok (.putfield 204, 3)) (by decide +kernel) rfl rfl
theorem t165_177 : rn 165 177 (some (.ref a) :: l) r M = rn 165 178 (some (.ref a) :: l) (.ref a :: r) M := r_aload_n (by decide +kernel : decode (mB 165) 177 = .ok (.aload_n 0, 1)) rfl
theorem t165_178 : rn 165 178 (some (.ref a) :: l) r M = rn 165 179 (some (.ref a) :: l) (.ref a :: r) M := r_aload_n (by decide +kernel : decode (mB 165) 178 = .ok (.aload_n 0, 1)) rfl
theorem t165_179 : rn 165 179 ls (.ref a :: r) M = if mK M a = (19, 0) then rn 165 182 ls (.int (mI M a 13) :: r) M else none := r_getI (ci := 9) (k := 13) (by decide +kernel : decode (mB 165) 179 = .ok (.getfield 204, 3)) (by decide +kernel) (Or.inl rfl)
theorem t165_182 : rn 165 182 ls (.int x :: r) M = if x < 0 then rn 165 201 ls r M else rn 165 185 ls r M := r_if (o := 19) (r := r) (c := x < 0) (by decide +kernel : decode (mB 165) 182 = .ok (.ifCond .lt 19, 3)) rfl (by decide) rfl
theorem t165_185 : rn 165 185 (some (.ref a) :: l) r M = rn 165 186 (some (.ref a) :: l) (.ref a :: r) M := r_aload_n (by decide +kernel : decode (mB 165) 185 = .ok (.aload_n 0, 1)) rfl
theorem t165_186 : rn 165 186 ls r M = rn 165 188 ls (.int 61 :: r) M := r_nx (by decide +kernel : decode (mB 165) 186 = .ok (.bipush 61, 2)) rfl rfl
theorem t165_188 : rn 165 188 ls [.int x, .ref a, .ref b] M = if mK M a = (19, 0) then cbn (cl 168 [.ref a, .int x] M) 165 191 ls [.ref b] else none := r_callV (kd := 0) (by decide +kernel : decode (mB 165) 188 = .ok (.invokevirtual 207, 3)) (by decide +kernel) ((doV_n np_168).trans rfl)
theorem t165_191 : rn 165 191 ls (.int x :: r) M = if x = 0 then rn 165 201 ls r M else rn 165 194 ls r M := r_if (o := 10) (r := r) (c := x = 0) (by decide +kernel : decode (mB 165) 191 = .ok (.ifCond .eq 10, 3)) rfl (by decide) rfl
theorem t165_194 : rn 165 194 (some (.ref a) :: l) r M = rn 165 195 (some (.ref a) :: l) (.ref a :: r) M := r_aload_n (by decide +kernel : decode (mB 165) 194 = .ok (.aload_n 0, 1)) rfl
theorem t165_195 : rn 165 195 ls [.ref a, .ref b] M = if mK M a = (19, 0) then cbn (cl 169 [.ref a] M) 165 198 ls [.ref b] else none := r_callV (kd := 0) (by decide +kernel : decode (mB 165) 195 = .ok (.invokevirtual 213, 3)) (by decide +kernel) ((doV_n np_169).trans rfl)
theorem t165_198 : rn 165 198 ls r M = rn 165 202 ls r M := r_goto (o := 4) (by decide +kernel : decode (mB 165) 198 = .ok (.goto 4, 3)) (by decide)
theorem t165_201 : rn 165 201 ls r M = rn 165 202 ls (.int (-1) :: r) M := r_nx (by decide +kernel : decode (mB 165) 201 = .ok (.iconst (-1), 1)) rfl rfl
theorem t165_202 : rn 165 202 ls (.int x :: .ref a :: r) M = if mK M a = (19, 0) then rn 165 205 ls r (sI M a (va_up (mI M a) 14 x)) else none := r_putI (ci := 9) (k := 14) (by decide +kernel : decode (mB 165) 202 = .ok (.putfield 210, 3)) (by decide +kernel) rfl rfl
theorem t165_205 : rn 165 205 (some (.ref a) :: l) r M = rn 165 206 (some (.ref a) :: l) (.ref a :: r) M := r_aload_n (by decide +kernel : decode (mB 165) 205 = .ok (.aload_n 0, 1)) rfl
theorem t165_206 : rn 165 206 ls (.ref a :: r) M = if mK M a = (19, 0) then rn 165 209 ls (.int (mI M a 14) :: r) M else none := r_getI (ci := 9) (k := 14) (by decide +kernel : decode (mB 165) 206 = .ok (.getfield 210, 3)) (by decide +kernel) (Or.inl rfl)
theorem t165_209 : rn 165 209 ls (.int x :: r) M = if x < 0 then rn 165 216 ls r M else rn 165 212 ls r M := r_if (o := 7) (r := r) (c := x < 0) (by decide +kernel : decode (mB 165) 209 = .ok (.ifCond .lt 7, 3)) rfl (by decide) rfl
theorem t165_212 : rn 165 212 ls r M = rn 165 213 ls (.int 1 :: r) M := r_nx (by decide +kernel : decode (mB 165) 212 = .ok (.iconst 1, 1)) rfl rfl
theorem t165_213 : rn 165 213 ls r M = rn 165 217 ls r M := r_goto (o := 4) (by decide +kernel : decode (mB 165) 213 = .ok (.goto 4, 3)) (by decide)
theorem t165_216 : rn 165 216 ls r M = rn 165 217 ls (.int 0 :: r) M := r_nx (by decide +kernel : decode (mB 165) 216 = .ok (.iconst 0, 1)) rfl rfl
theorem t165_217 : rn 165 217 ls [.int x] M = if x = 0 ∨ x = 1 then some (some (.int x), M) else none := r_zreturn (by decide +kernel : decode (mB 165) 217 = .ok (.ireturn, 1)) rfl
theorem t165_218 : rn 165 218 (some (.ref a) :: l) r M = rn 165 219 (some (.ref a) :: l) (.ref a :: r) M := r_aload_n (by decide +kernel : decode (mB 165) 218 = .ok (.aload_n 0, 1)) rfl
theorem t165_219 : rn 165 219 (some (.ref a) :: l) r M = rn 165 220 (some (.ref a) :: l) (.ref a :: r) M := r_aload_n (by decide +kernel : decode (mB 165) 219 = .ok (.aload_n 0, 1)) rfl
theorem t165_220 : rn 165 220 ls [.ref a, .ref b] M = if mK M a = (19, 0) then cbn (cl 167 [.ref a] M) 165 223 ls [.ref b] else none := r_callV (kd := 0) (by decide +kernel : decode (mB 165) 220 = .ok (.invokevirtual 201, 3)) (by decide +kernel) ((doV_n np_167).trans rfl)
theorem t165_223 : rn 165 223 ls (.int x :: .ref a :: r) M = if mK M a = (19, 0) then rn 165 226 ls r (sI M a (va_up (mI M a) 13 x)) else none := r_putI (ci := 9) (k := 13) (by decide +kernel : decode (mB 165) 223 = .ok (.putfield 204, 3)) (by decide +kernel) rfl rfl
theorem t165_226 : rn 165 226 (some (.ref a) :: l) r M = rn 165 227 (some (.ref a) :: l) (.ref a :: r) M := r_aload_n (by decide +kernel : decode (mB 165) 226 = .ok (.aload_n 0, 1)) rfl
theorem t165_227 : rn 165 227 ls (.ref a :: r) M = if mK M a = (19, 0) then rn 165 230 ls (.int (mI M a 13) :: r) M else none := r_getI (ci := 9) (k := 13) (by decide +kernel : decode (mB 165) 227 = .ok (.getfield 204, 3)) (by decide +kernel) (Or.inl rfl)
theorem t165_230 : rn 165 230 ls (.int x :: r) M = if x < 0 then rn 165 237 ls r M else rn 165 233 ls r M := r_if (o := 7) (r := r) (c := x < 0) (by decide +kernel : decode (mB 165) 230 = .ok (.ifCond .lt 7, 3)) rfl (by decide) rfl
theorem t165_233 : rn 165 233 ls r M = rn 165 234 ls (.int 1 :: r) M := r_nx (by decide +kernel : decode (mB 165) 233 = .ok (.iconst 1, 1)) rfl rfl
theorem t165_234 : rn 165 234 ls r M = rn 165 238 ls r M := r_goto (o := 4) (by decide +kernel : decode (mB 165) 234 = .ok (.goto 4, 3)) (by decide)
theorem t165_237 : rn 165 237 ls r M = rn 165 238 ls (.int 0 :: r) M := r_nx (by decide +kernel : decode (mB 165) 237 = .ok (.iconst 0, 1)) rfl rfl
theorem t165_238 : rn 165 238 ls [.int x] M = if x = 0 ∨ x = 1 then some (some (.int x), M) else none := r_zreturn (by decide +kernel : decode (mB 165) 238 = .ok (.ireturn, 1)) rfl
theorem t165_239 : rn 165 239 (some (.ref a) :: l) r M = rn 165 240 (some (.ref a) :: l) (.ref a :: r) M := r_aload_n (by decide +kernel : decode (mB 165) 239 = .ok (.aload_n 0, 1)) rfl
theorem t165_240 : rn 165 240 (some (.ref a) :: l) r M = rn 165 241 (some (.ref a) :: l) (.ref a :: r) M := r_aload_n (by decide +kernel : decode (mB 165) 240 = .ok (.aload_n 0, 1)) rfl
theorem t165_241 : rn 165 241 ls [.ref a, .ref b] M = if mK M a = (19, 0) then cbn (cl 169 [.ref a] M) 165 244 ls [.ref b] else none := r_callV (kd := 0) (by decide +kernel : decode (mB 165) 241 = .ok (.invokevirtual 213, 3)) (by decide +kernel) ((doV_n np_169).trans rfl)
theorem t165_244 : rn 165 244 ls (.int x :: .ref a :: r) M = if mK M a = (19, 0) then rn 165 247 ls r (sI M a (va_up (mI M a) 13 x)) else none := r_putI (ci := 9) (k := 13) (by decide +kernel : decode (mB 165) 244 = .ok (.putfield 204, 3)) (by decide +kernel) rfl rfl
theorem t165_247 : rn 165 247 (some (.ref a) :: l) r M = rn 165 248 (some (.ref a) :: l) (.ref a :: r) M := r_aload_n (by decide +kernel : decode (mB 165) 247 = .ok (.aload_n 0, 1)) rfl
theorem t165_248 : rn 165 248 ls (.ref a :: r) M = if mK M a = (19, 0) then rn 165 251 ls (.int (mI M a 13) :: r) M else none := r_getI (ci := 9) (k := 13) (by decide +kernel : decode (mB 165) 248 = .ok (.getfield 204, 3)) (by decide +kernel) (Or.inl rfl)
theorem t165_251 : rn 165 251 ls (.int x :: r) M = if x < 0 then rn 165 258 ls r M else rn 165 254 ls r M := r_if (o := 7) (r := r) (c := x < 0) (by decide +kernel : decode (mB 165) 251 = .ok (.ifCond .lt 7, 3)) rfl (by decide) rfl
theorem t165_254 : rn 165 254 ls r M = rn 165 255 ls (.int 1 :: r) M := r_nx (by decide +kernel : decode (mB 165) 254 = .ok (.iconst 1, 1)) rfl rfl
theorem t165_255 : rn 165 255 ls r M = rn 165 259 ls r M := r_goto (o := 4) (by decide +kernel : decode (mB 165) 255 = .ok (.goto 4, 3)) (by decide)
theorem t165_258 : rn 165 258 ls r M = rn 165 259 ls (.int 0 :: r) M := r_nx (by decide +kernel : decode (mB 165) 258 = .ok (.iconst 0, 1)) rfl rfl
theorem t165_259 : rn 165 259 ls [.int x] M = if x = 0 ∨ x = 1 then some (some (.int x), M) else none := r_zreturn (by decide +kernel : decode (mB 165) 259 = .ok (.ireturn, 1)) rfl
theorem t165_260 : rn 165 260 (some (.ref a) :: l) r M = rn 165 261 (some (.ref a) :: l) (.ref a :: r) M := r_aload_n (by decide +kernel : decode (mB 165) 260 = .ok (.aload_n 0, 1)) rfl
theorem t165_261 : rn 165 261 (some (.ref a) :: l) r M = rn 165 262 (some (.ref a) :: l) (.ref a :: r) M := r_aload_n (by decide +kernel : decode (mB 165) 261 = .ok (.aload_n 0, 1)) rfl
theorem t165_262 : rn 165 262 ls [.ref a, .ref b] M = if mK M a = (19, 0) then cbn (cl 169 [.ref a] M) 165 265 ls [.ref b] else none := r_callV (kd := 0) (by decide +kernel : decode (mB 165) 262 = .ok (.invokevirtual 213, 3)) (by decide +kernel) ((doV_n np_169).trans rfl)
theorem t165_265 : rn 165 265 ls (.int x :: .ref a :: r) M = if mK M a = (19, 0) then rn 165 268 ls r (sI M a (va_up (mI M a) 13 x)) else none := r_putI (ci := 9) (k := 13) (by decide +kernel : decode (mB 165) 265 = .ok (.putfield 204, 3)) (by decide +kernel) rfl rfl
theorem t165_268 : rn 165 268 (some (.ref a) :: l) r M = rn 165 269 (some (.ref a) :: l) (.ref a :: r) M := r_aload_n (by decide +kernel : decode (mB 165) 268 = .ok (.aload_n 0, 1)) rfl
theorem t165_269 : rn 165 269 (some (.ref a) :: l) r M = rn 165 270 (some (.ref a) :: l) (.ref a :: r) M := r_aload_n (by decide +kernel : decode (mB 165) 269 = .ok (.aload_n 0, 1)) rfl
theorem t165_270 : rn 165 270 ls (.ref a :: r) M = if mK M a = (19, 0) then rn 165 273 ls (.int (mI M a 13) :: r) M else none := r_getI (ci := 9) (k := 13) (by decide +kernel : decode (mB 165) 270 = .ok (.getfield 204, 3)) (by decide +kernel) (Or.inl rfl)
theorem t165_273 : rn 165 273 ls (.int x :: r) M = if x < 0 then rn 165 292 ls r M else rn 165 276 ls r M := r_if (o := 19) (r := r) (c := x < 0) (by decide +kernel : decode (mB 165) 273 = .ok (.ifCond .lt 19, 3)) rfl (by decide) rfl
theorem t165_276 : rn 165 276 (some (.ref a) :: l) r M = rn 165 277 (some (.ref a) :: l) (.ref a :: r) M := r_aload_n (by decide +kernel : decode (mB 165) 276 = .ok (.aload_n 0, 1)) rfl
theorem t165_277 : rn 165 277 ls r M = rn 165 279 ls (.int 60 :: r) M := r_nx (by decide +kernel : decode (mB 165) 277 = .ok (.bipush 60, 2)) rfl rfl
theorem t165_279 : rn 165 279 ls [.int x, .ref a, .ref b] M = if mK M a = (19, 0) then cbn (cl 168 [.ref a, .int x] M) 165 282 ls [.ref b] else none := r_callV (kd := 0) (by decide +kernel : decode (mB 165) 279 = .ok (.invokevirtual 207, 3)) (by decide +kernel) ((doV_n np_168).trans rfl)
theorem t165_282 : rn 165 282 ls (.int x :: r) M = if x = 0 then rn 165 292 ls r M else rn 165 285 ls r M := r_if (o := 10) (r := r) (c := x = 0) (by decide +kernel : decode (mB 165) 282 = .ok (.ifCond .eq 10, 3)) rfl (by decide) rfl
theorem t165_285 : rn 165 285 (some (.ref a) :: l) r M = rn 165 286 (some (.ref a) :: l) (.ref a :: r) M := r_aload_n (by decide +kernel : decode (mB 165) 285 = .ok (.aload_n 0, 1)) rfl
theorem t165_286 : rn 165 286 ls [.ref a, .ref b] M = if mK M a = (19, 0) then cbn (cl 169 [.ref a] M) 165 289 ls [.ref b] else none := r_callV (kd := 0) (by decide +kernel : decode (mB 165) 286 = .ok (.invokevirtual 213, 3)) (by decide +kernel) ((doV_n np_169).trans rfl)
theorem t165_289 : rn 165 289 ls r M = rn 165 293 ls r M := r_goto (o := 4) (by decide +kernel : decode (mB 165) 289 = .ok (.goto 4, 3)) (by decide)
theorem t165_292 : rn 165 292 ls r M = rn 165 293 ls (.int (-1) :: r) M := r_nx (by decide +kernel : decode (mB 165) 292 = .ok (.iconst (-1), 1)) rfl rfl
theorem t165_293 : rn 165 293 ls (.int x :: .ref a :: r) M = if mK M a = (19, 0) then rn 165 296 ls r (sI M a (va_up (mI M a) 14 x)) else none := r_putI (ci := 9) (k := 14) (by decide +kernel : decode (mB 165) 293 = .ok (.putfield 210, 3)) (by decide +kernel) rfl rfl
theorem t165_296 : rn 165 296 (some (.ref a) :: l) r M = rn 165 297 (some (.ref a) :: l) (.ref a :: r) M := r_aload_n (by decide +kernel : decode (mB 165) 296 = .ok (.aload_n 0, 1)) rfl
theorem t165_297 : rn 165 297 ls (.ref a :: r) M = if mK M a = (19, 0) then rn 165 300 ls (.int (mI M a 14) :: r) M else none := r_getI (ci := 9) (k := 14) (by decide +kernel : decode (mB 165) 297 = .ok (.getfield 210, 3)) (by decide +kernel) (Or.inl rfl)
theorem t165_300 : rn 165 300 ls (.int x :: r) M = if x < 0 then rn 165 307 ls r M else rn 165 303 ls r M := r_if (o := 7) (r := r) (c := x < 0) (by decide +kernel : decode (mB 165) 300 = .ok (.ifCond .lt 7, 3)) rfl (by decide) rfl
theorem t165_303 : rn 165 303 ls r M = rn 165 304 ls (.int 1 :: r) M := r_nx (by decide +kernel : decode (mB 165) 303 = .ok (.iconst 1, 1)) rfl rfl
theorem t165_304 : rn 165 304 ls r M = rn 165 308 ls r M := r_goto (o := 4) (by decide +kernel : decode (mB 165) 304 = .ok (.goto 4, 3)) (by decide)
theorem t165_307 : rn 165 307 ls r M = rn 165 308 ls (.int 0 :: r) M := r_nx (by decide +kernel : decode (mB 165) 307 = .ok (.iconst 0, 1)) rfl rfl
theorem t165_308 : rn 165 308 ls [.int x] M = if x = 0 ∨ x = 1 then some (some (.int x), M) else none := r_zreturn (by decide +kernel : decode (mB 165) 308 = .ok (.ireturn, 1)) rfl
theorem t165_309 : rn 165 309 ls r M = rn 165 310 ls (.int 1 :: r) M := r_nx (by decide +kernel : decode (mB 165) 309 = .ok (.iconst 1, 1)) rfl rfl
theorem t165_310 : rn 165 310 ls [.int x] M = if x = 0 ∨ x = 1 then some (some (.int x), M) else none := r_zreturn (by decide +kernel : decode (mB 165) 310 = .ok (.ireturn, 1)) rfl
theorem t165_311 : rn 165 311 (some (.ref a) :: l) r M = rn 165 312 (some (.ref a) :: l) (.ref a :: r) M := r_aload_n (by decide +kernel : decode (mB 165) 311 = .ok (.aload_n 0, 1)) rfl
theorem t165_312 : rn 165 312 ls (.ref a :: r) M = rn 165 313 ls (.ref a :: .ref a :: r) M := r_nx (by decide +kernel : decode (mB 165) 312 = .ok (.dup, 1)) rfl rfl
theorem t165_313 : rn 165 313 ls (.ref a :: r) M = if mK M a = (19, 0) then rn 165 316 ls (.int (mI M a 11) :: r) M else none := r_getI (ci := 9) (k := 11) (by decide +kernel : decode (mB 165) 313 = .ok (.getfield 192, 3)) (by decide +kernel) (Or.inl rfl)
theorem t165_316 : rn 165 316 ls r M = rn 165 317 ls (.int 1 :: r) M := r_nx (by decide +kernel : decode (mB 165) 316 = .ok (.iconst 1, 1)) rfl rfl
theorem t165_317 : rn 165 317 ls (.int y :: .int x :: r) M = rn 165 318 ls (.int (x - y) :: r) M := r_nx (by decide +kernel : decode (mB 165) 317 = .ok (.isub, 1)) rfl rfl
theorem t165_318 : rn 165 318 ls (.int x :: .ref a :: r) M = if mK M a = (19, 0) then rn 165 321 ls r (sI M a (va_up (mI M a) 11 x)) else none := r_putI (ci := 9) (k := 11) (by decide +kernel : decode (mB 165) 318 = .ok (.putfield 192, 3)) (by decide +kernel) rfl rfl
theorem t165_321 : rn 165 321 ls r M = rn 165 322 ls (.int 0 :: r) M := r_nx (by decide +kernel : decode (mB 165) 321 = .ok (.iconst 0, 1)) rfl rfl
theorem t165_322 : rn 165 322 ls [.int x] M = if x = 0 ∨ x = 1 then some (some (.int x), M) else none := r_zreturn (by decide +kernel : decode (mB 165) 322 = .ok (.ireturn, 1)) rfl
-- 166 DRModel_character(I)I
theorem t166_0 : rn 166 0 (a0 :: some (.int x) :: l) r M = rn 166 1 (a0 :: some (.int x) :: l) (.int x :: r) M := r_iload_n (by decide +kernel : decode (mB 166) 0 = .ok (.iload_n 1, 1)) rfl
theorem t166_1 : rn 166 1 (some (.ref a) :: l) r M = rn 166 2 (some (.ref a) :: l) (.ref a :: r) M := r_aload_n (by decide +kernel : decode (mB 166) 1 = .ok (.aload_n 0, 1)) rfl
theorem t166_2 : rn 166 2 ls (.ref a :: r) M = if mK M a = (19, 0) then rn 166 5 ls (.int (mI M a 7) :: r) M else none := r_getI (ci := 9) (k := 7) (by decide +kernel : decode (mB 166) 2 = .ok (.getfield 185, 3)) (by decide +kernel) (Or.inl rfl)
theorem t166_5 : rn 166 5 ls (.int y :: .int x :: r) M = if y ≤ x then rn 166 17 ls r M else rn 166 8 ls r M := r_if (o := 12) (r := r) (c := y ≤ x) (by decide +kernel : decode (mB 166) 5 = .ok (.if_icmp .ge 12, 3)) rfl (by decide) rfl
theorem t166_8 : rn 166 8 (some (.ref a) :: l) r M = rn 166 9 (some (.ref a) :: l) (.ref a :: r) M := r_aload_n (by decide +kernel : decode (mB 166) 8 = .ok (.aload_n 0, 1)) rfl
theorem t166_9 : rn 166 9 ls (.ref a :: r) M = if mK M a = (19, 0) then rn 166 12 ls (va_rf (mP M a 6) :: r) M else none := r_getP (ci := 9) (k := 6) (by decide +kernel : decode (mB 166) 9 = .ok (.getfield 25, 3)) (by decide +kernel) rfl
theorem t166_12 : rn 166 12 (a0 :: some (.int x) :: l) r M = rn 166 13 (a0 :: some (.int x) :: l) (.int x :: r) M := r_iload_n (by decide +kernel : decode (mB 166) 12 = .ok (.iload_n 1, 1)) rfl
theorem t166_13 : rn 166 13 ls (.int x :: .ref a :: r) M = if ((mK M a).1 = 1 ∨ (mK M a).1 = 5) ∧ inR x (mK M a).2 then rn 166 14 ls (.int (mI M a x.toNatClampNeg) :: r) M else none := r_cnd (by decide +kernel : decode (mB 166) 13 = .ok (.iaload, 1)) rfl rfl
theorem t166_14 : rn 166 14 ls r M = rn 166 18 ls r M := r_goto (o := 4) (by decide +kernel : decode (mB 166) 14 = .ok (.goto 4, 3)) (by decide)
theorem t166_17 : rn 166 17 ls r M = rn 166 18 ls (.int (-1) :: r) M := r_nx (by decide +kernel : decode (mB 166) 17 = .ok (.iconst (-1), 1)) rfl rfl
theorem t166_18 : rn 166 18 ls [.int x] M = some (some (.int x), M) := r_ireturn (by decide +kernel : decode (mB 166) 18 = .ok (.ireturn, 1)) rfl
-- 167 DRModel_takeFile()I
theorem t167_0 : rn 167 0 (some (.ref a) :: l) r M = rn 167 1 (some (.ref a) :: l) (.ref a :: r) M := r_aload_n (by decide +kernel : decode (mB 167) 0 = .ok (.aload_n 0, 1)) rfl
theorem t167_1 : rn 167 1 (some (.ref a) :: l) r M = rn 167 2 (some (.ref a) :: l) (.ref a :: r) M := r_aload_n (by decide +kernel : decode (mB 167) 1 = .ok (.aload_n 0, 1)) rfl
theorem t167_2 : rn 167 2 ls (.ref a :: r) M = if mK M a = (19, 0) then rn 167 5 ls (.int (mI M a 11) :: r) M else none := r_getI (ci := 9) (k := 11) (by decide +kernel : decode (mB 167) 2 = .ok (.getfield 192, 3)) (by decide +kernel) (Or.inl rfl)
theorem t167_5 : rn 167 5 ls [.int x, .ref a] M = if mK M a = (19, 0) then cbn (cl 166 [.ref a, .int x] M) 167 8 ls [] else none := r_callV (kd := 0) (by decide +kernel : decode (mB 167) 5 = .ok (.invokevirtual 195, 3)) (by decide +kernel) ((doV_n np_166).trans rfl)
theorem t167_8 : rn 167 8 ls r M = rn 167 10 ls (.int 97 :: r) M := r_nx (by decide +kernel : decode (mB 167) 8 = .ok (.bipush 97, 2)) rfl rfl
theorem t167_10 : rn 167 10 ls (.int y :: .int x :: r) M = rn 167 11 ls (.int (x - y) :: r) M := r_nx (by decide +kernel : decode (mB 167) 10 = .ok (.isub, 1)) rfl rfl
theorem t167_11 : rn 167 11 (a0 :: a1 :: l) (.int x :: r) M = rn 167 12 (a0 :: some (.int x) :: l) r M := r_istore_n (by decide +kernel : decode (mB 167) 11 = .ok (.istore_n 1, 1)) (Nat.le_add_left 2 l.length)
theorem t167_12 : rn 167 12 (a0 :: some (.int x) :: l) r M = rn 167 13 (a0 :: some (.int x) :: l) (.int x :: r) M := r_iload_n (by decide +kernel : decode (mB 167) 12 = .ok (.iload_n 1, 1)) rfl
theorem t167_13 : rn 167 13 ls [.int x] M = cbn (cl 105 [.int x] M) 167 16 ls [] := r_callS (kd := 2) (by decide +kernel : decode (mB 167) 13 = .ok (.invokestatic 126, 3)) (by decide +kernel) (by decide +kernel) ((doS_n np_105).trans rfl)
theorem t167_16 : rn 167 16 ls (.int x :: r) M = if ¬ x = 0 then rn 167 21 ls r M else rn 167 19 ls r M := r_if (o := 5) (r := r) (c := ¬ x = 0) (by decide +kernel : decode (mB 167) 16 = .ok (.ifCond .ne 5, 3)) rfl (by decide) rfl
theorem t167_19 : rn 167 19 ls r M = rn 167 20 ls (.int (-1) :: r) M := r_nx (by decide +kernel : decode (mB 167) 19 = .ok (.iconst (-1), 1)) rfl rfl
theorem t167_20 : rn 167 20 ls [.int x] M = some (some (.int x), M) := r_ireturn (by decide +kernel : decode (mB 167) 20 = .ok (.ireturn, 1)) rfl
theorem t167_21 : rn 167 21 (some (.ref a) :: l) r M = rn 167 22 (some (.ref a) :: l) (.ref a :: r) M := r_aload_n (by decide +kernel : decode (mB 167) 21 = .ok (.aload_n 0, 1)) rfl
theorem t167_22 : rn 167 22 ls (.ref a :: r) M = rn 167 23 ls (.ref a :: .ref a :: r) M := r_nx (by decide +kernel : decode (mB 167) 22 = .ok (.dup, 1)) rfl rfl
theorem t167_23 : rn 167 23 ls (.ref a :: r) M = if mK M a = (19, 0) then rn 167 26 ls (.int (mI M a 11) :: r) M else none := r_getI (ci := 9) (k := 11) (by decide +kernel : decode (mB 167) 23 = .ok (.getfield 192, 3)) (by decide +kernel) (Or.inl rfl)
theorem t167_26 : rn 167 26 ls r M = rn 167 27 ls (.int 1 :: r) M := r_nx (by decide +kernel : decode (mB 167) 26 = .ok (.iconst 1, 1)) rfl rfl
theorem t167_27 : rn 167 27 ls (.int y :: .int x :: r) M = rn 167 28 ls (.int (x + y) :: r) M := r_nx (by decide +kernel : decode (mB 167) 27 = .ok (.iadd, 1)) rfl rfl
theorem t167_28 : rn 167 28 ls (.int x :: .ref a :: r) M = if mK M a = (19, 0) then rn 167 31 ls r (sI M a (va_up (mI M a) 11 x)) else none := r_putI (ci := 9) (k := 11) (by decide +kernel : decode (mB 167) 28 = .ok (.putfield 192, 3)) (by decide +kernel) rfl rfl
theorem t167_31 : rn 167 31 (a0 :: some (.int x) :: l) r M = rn 167 32 (a0 :: some (.int x) :: l) (.int x :: r) M := r_iload_n (by decide +kernel : decode (mB 167) 31 = .ok (.iload_n 1, 1)) rfl
theorem t167_32 : rn 167 32 ls [.int x] M = some (some (.int x), M) := r_ireturn (by decide +kernel : decode (mB 167) 32 = .ok (.ireturn, 1)) rfl
-- 168 DRModel_takes(I)Z
theorem t168_0 : rn 168 0 (some (.ref a) :: l) r M = rn 168 1 (some (.ref a) :: l) (.ref a :: r) M := r_aload_n (by decide +kernel : decode (mB 168) 0 = .ok (.aload_n 0, 1)) rfl
theorem t168_1 : rn 168 1 (some (.ref a) :: l) r M = rn 168 2 (some (.ref a) :: l) (.ref a :: r) M := r_aload_n (by decide +kernel : decode (mB 168) 1 = .ok (.aload_n 0, 1)) rfl
theorem t168_2 : rn 168 2 ls (.ref a :: r) M = if mK M a = (19, 0) then rn 168 5 ls (.int (mI M a 11) :: r) M else none := r_getI (ci := 9) (k := 11) (by decide +kernel : decode (mB 168) 2 = .ok (.getfield 192, 3)) (by decide +kernel) (Or.inl rfl)
theorem t168_5 : rn 168 5 ls [.int x, .ref a] M = if mK M a = (19, 0) then cbn (cl 166 [.ref a, .int x] M) 168 8 ls [] else none := r_callV (kd := 0) (by decide +kernel : decode (mB 168) 5 = .ok (.invokevirtual 195, 3)) (by decide +kernel) ((doV_n np_166).trans rfl)
theorem t168_8 : rn 168 8 (a0 :: some (.int x) :: l) r M = rn 168 9 (a0 :: some (.int x) :: l) (.int x :: r) M := r_iload_n (by decide +kernel : decode (mB 168) 8 = .ok (.iload_n 1, 1)) rfl
theorem t168_9 : rn 168 9 ls (.int y :: .int x :: r) M = if ¬ x = y then rn 168 16 ls r M else rn 168 12 ls r M := r_if (o := 7) (r := r) (c := ¬ x = y) (by decide +kernel : decode (mB 168) 9 = .ok (.if_icmp .ne 7, 3)) rfl (by decide) rfl
theorem t168_12 : rn 168 12 ls r M = rn 168 13 ls (.int 1 :: r) M := r_nx (by decide +kernel : decode (mB 168) 12 = .ok (.iconst 1, 1)) rfl rfl
theorem t168_13 : rn 168 13 ls r M = rn 168 17 ls r M := r_goto (o := 4) (by decide +kernel : decode (mB 168) 13 = .ok (.goto 4, 3)) (by decide)
theorem t168_16 : rn 168 16 ls r M = rn 168 17 ls (.int 0 :: r) M := r_nx (by decide +kernel : decode (mB 168) 16 = .ok (.iconst 0, 1)) rfl rfl
theorem t168_17 : rn 168 17 (a0 :: a1 :: a2 :: l) (.int x :: r) M = rn 168 18 (a0 :: a1 :: some (.int x) :: l) r M := r_istore_n (by decide +kernel : decode (mB 168) 17 = .ok (.istore_n 2, 1)) (Nat.le_add_left 3 l.length)
theorem t168_18 : rn 168 18 (some (.ref a) :: l) r M = rn 168 19 (some (.ref a) :: l) (.ref a :: r) M := r_aload_n (by decide +kernel : decode (mB 168) 18 = .ok (.aload_n 0, 1)) rfl
theorem t168_19 : rn 168 19 ls (.ref a :: r) M = rn 168 20 ls (.ref a :: .ref a :: r) M := r_nx (by decide +kernel : decode (mB 168) 19 = .ok (.dup, 1)) rfl rfl
theorem t168_20 : rn 168 20 ls (.ref a :: r) M = if mK M a = (19, 0) then rn 168 23 ls (.int (mI M a 11) :: r) M else none := r_getI (ci := 9) (k := 11) (by decide +kernel : decode (mB 168) 20 = .ok (.getfield 192, 3)) (by decide +kernel) (Or.inl rfl)
theorem t168_23 : rn 168 23 (a0 :: a1 :: some (.int x) :: l) r M = rn 168 24 (a0 :: a1 :: some (.int x) :: l) (.int x :: r) M := r_iload_n (by decide +kernel : decode (mB 168) 23 = .ok (.iload_n 2, 1)) rfl
theorem t168_24 : rn 168 24 ls (.int x :: r) M = if x = 0 then rn 168 31 ls r M else rn 168 27 ls r M := r_if (o := 7) (r := r) (c := x = 0) (by decide +kernel : decode (mB 168) 24 = .ok (.ifCond .eq 7, 3)) rfl (by decide) rfl
theorem t168_27 : rn 168 27 ls r M = rn 168 28 ls (.int 1 :: r) M := r_nx (by decide +kernel : decode (mB 168) 27 = .ok (.iconst 1, 1)) rfl rfl
theorem t168_28 : rn 168 28 ls r M = rn 168 32 ls r M := r_goto (o := 4) (by decide +kernel : decode (mB 168) 28 = .ok (.goto 4, 3)) (by decide)
theorem t168_31 : rn 168 31 ls r M = rn 168 32 ls (.int 0 :: r) M := r_nx (by decide +kernel : decode (mB 168) 31 = .ok (.iconst 0, 1)) rfl rfl
theorem t168_32 : rn 168 32 ls (.int y :: .int x :: r) M = rn 168 33 ls (.int (x + y) :: r) M := r_nx (by decide +kernel : decode (mB 168) 32 = .ok (.iadd, 1)) rfl rfl
theorem t168_33 : rn 168 33 ls (.int x :: .ref a :: r) M = if mK M a = (19, 0) then rn 168 36 ls r (sI M a (va_up (mI M a) 11 x)) else none := r_putI (ci := 9) (k := 11) (by decide +kernel : decode (mB 168) 33 = .ok (.putfield 192, 3)) (by decide +kernel) rfl rfl
theorem t168_36 : rn 168 36 (a0 :: a1 :: some (.int x) :: l) r M = rn 168 37 (a0 :: a1 :: some (.int x) :: l) (.int x :: r) M := r_iload_n (by decide +kernel : decode (mB 168) 36 = .ok (.iload_n 2, 1)) rfl
theorem t168_37 : rn 168 37 ls [.int x] M = if x = 0 ∨ x = 1 then some (some (.int x), M) else none := r_zreturn (by decide +kernel : decode (mB 168) 37 = .ok (.ireturn, 1)) rfl
-- 169 DRModel_takeNumber()I
theorem t169_0 : rn 169 0 ls r M = rn 169 1 ls (.int (-1) :: r) M := r_nx (by decide +kernel : decode (mB 169) 0 = .ok (.iconst (-1), 1)) rfl rfl
theorem t169_1 : rn 169 1 (a0 :: a1 :: l) (.int x :: r) M = rn 169 2 (a0 :: some (.int x) :: l) r M := r_istore_n (by decide +kernel : decode (mB 169) 1 = .ok (.istore_n 1, 1)) (Nat.le_add_left 2 l.length)
theorem t169_2 : rn 169 2 (some (.ref a) :: l) r M = rn 169 3 (some (.ref a) :: l) (.ref a :: r) M := r_aload_n (by decide +kernel : decode (mB 169) 2 = .ok (.aload_n 0, 1)) rfl
theorem t169_3 : rn 169 3 (some (.ref a) :: l) r M = rn 169 4 (some (.ref a) :: l) (.ref a :: r) M := r_aload_n (by decide +kernel : decode (mB 169) 3 = .ok (.aload_n 0, 1)) rfl
theorem t169_4 : rn 169 4 ls (.ref a :: r) M = if mK M a = (19, 0) then rn 169 7 ls (.int (mI M a 11) :: r) M else none := r_getI (ci := 9) (k := 11) (by decide +kernel : decode (mB 169) 4 = .ok (.getfield 192, 3)) (by decide +kernel) (Or.inl rfl)
theorem t169_7 : rn 169 7 ls [.int x, .ref a] M = if mK M a = (19, 0) then cbn (cl 166 [.ref a, .int x] M) 169 10 ls [] else none := r_callV (kd := 0) (by decide +kernel : decode (mB 169) 7 = .ok (.invokevirtual 195, 3)) (by decide +kernel) ((doV_n np_166).trans rfl)
theorem t169_10 : rn 169 10 ls r M = rn 169 12 ls (.int 48 :: r) M := r_nx (by decide +kernel : decode (mB 169) 10 = .ok (.bipush 48, 2)) rfl rfl
theorem t169_12 : rn 169 12 ls r M = rn 169 14 ls (.int 57 :: r) M := r_nx (by decide +kernel : decode (mB 169) 12 = .ok (.bipush 57, 2)) rfl rfl
theorem t169_14 : rn 169 14 ls [.int x, .int y, .int z] M = cbn (cl 104 [.int z, .int y, .int x] M) 169 17 ls [] := r_callS (kd := 2) (by decide +kernel : decode (mB 169) 14 = .ok (.invokestatic 49, 3)) (by decide +kernel) (by decide +kernel) ((doS_n np_104).trans rfl)
theorem t169_17 : rn 169 17 (a0 :: a1 :: a2 :: l) (.int x :: r) M = rn 169 18 (a0 :: a1 :: some (.int x) :: l) r M := r_istore_n (by decide +kernel : decode (mB 169) 17 = .ok (.istore_n 2, 1)) (Nat.le_add_left 3 l.length)
theorem t169_18 : rn 169 18 (a0 :: a1 :: some (.int x) :: l) r M = rn 169 19 (a0 :: a1 :: some (.int x) :: l) (.int x :: r) M := r_iload_n (by decide +kernel : decode (mB 169) 18 = .ok (.iload_n 2, 1)) rfl
theorem t169_19 : rn 169 19 ls (.int x :: r) M = if x = 0 then rn 169 94 ls r M else rn 169 22 ls r M := r_if (o := 75) (r := r) (c := x = 0) (by decide +kernel : decode (mB 169) 19 = .ok (.ifCond .eq 75, 3)) rfl (by decide) rfl
theorem t169_22 : rn 169 22 (a0 :: some (.int x) :: l) r M = rn 169 23 (a0 :: some (.int x) :: l) (.int x :: r) M := r_iload_n (by decide +kernel : decode (mB 169) 22 = .ok (.iload_n 1, 1)) rfl
theorem t169_23 : rn 169 23 ls (.int x :: r) M = if 0 ≤ x then rn 169 30 ls r M else rn 169 26 ls r M := r_if (o := 7) (r := r) (c := 0 ≤ x) (by decide +kernel : decode (mB 169) 23 = .ok (.ifCond .ge 7, 3)) rfl (by decide) rfl
theorem t169_26 : rn 169 26 ls r M = rn 169 27 ls (.int 0 :: r) M := r_nx (by decide +kernel : decode (mB 169) 26 = .ok (.iconst 0, 1)) rfl rfl
theorem t169_27 : rn 169 27 ls r M = rn 169 34 ls r M := r_goto (o := 7) (by decide +kernel : decode (mB 169) 27 = .ok (.goto 7, 3)) (by decide)
theorem t169_30 : rn 169 30 ls r M = rn 169 32 ls (.int 10 :: r) M := r_nx (by decide +kernel : decode (mB 169) 30 = .ok (.bipush 10, 2)) rfl rfl
theorem t169_32 : rn 169 32 (a0 :: some (.int x) :: l) r M = rn 169 33 (a0 :: some (.int x) :: l) (.int x :: r) M := r_iload_n (by decide +kernel : decode (mB 169) 32 = .ok (.iload_n 1, 1)) rfl
theorem t169_33 : rn 169 33 ls (.int y :: .int x :: r) M = rn 169 34 ls (.int (x * y) :: r) M := r_nx (by decide +kernel : decode (mB 169) 33 = .ok (.imul, 1)) rfl rfl
theorem t169_34 : rn 169 34 (some (.ref a) :: l) r M = rn 169 35 (some (.ref a) :: l) (.ref a :: r) M := r_aload_n (by decide +kernel : decode (mB 169) 34 = .ok (.aload_n 0, 1)) rfl
theorem t169_35 : rn 169 35 (some (.ref a) :: l) r M = rn 169 36 (some (.ref a) :: l) (.ref a :: r) M := r_aload_n (by decide +kernel : decode (mB 169) 35 = .ok (.aload_n 0, 1)) rfl
theorem t169_36 : rn 169 36 ls (.ref a :: r) M = if mK M a = (19, 0) then rn 169 39 ls (.int (mI M a 11) :: r) M else none := r_getI (ci := 9) (k := 11) (by decide +kernel : decode (mB 169) 36 = .ok (.getfield 192, 3)) (by decide +kernel) (Or.inl rfl)
theorem t169_39 : rn 169 39 ls [.int x, .ref a, .int y] M = if mK M a = (19, 0) then cbn (cl 166 [.ref a, .int x] M) 169 42 ls [.int y] else none := r_callV (kd := 0) (by decide +kernel : decode (mB 169) 39 = .ok (.invokevirtual 195, 3)) (by decide +kernel) ((doV_n np_166).trans rfl)
theorem t169_42 : rn 169 42 ls (.int y :: .int x :: r) M = rn 169 43 ls (.int (x + y) :: r) M := r_nx (by decide +kernel : decode (mB 169) 42 = .ok (.iadd, 1)) rfl rfl
theorem t169_43 : rn 169 43 ls r M = rn 169 45 ls (.int 48 :: r) M := r_nx (by decide +kernel : decode (mB 169) 43 = .ok (.bipush 48, 2)) rfl rfl
theorem t169_45 : rn 169 45 ls (.int y :: .int x :: r) M = rn 169 46 ls (.int (x - y) :: r) M := r_nx (by decide +kernel : decode (mB 169) 45 = .ok (.isub, 1)) rfl rfl
theorem t169_46 : rn 169 46 (a0 :: a1 :: l) (.int x :: r) M = rn 169 47 (a0 :: some (.int x) :: l) r M := r_istore_n (by decide +kernel : decode (mB 169) 46 = .ok (.istore_n 1, 1)) (Nat.le_add_left 2 l.length)
theorem t169_47 : rn 169 47 (some (.ref a) :: l) r M = rn 169 48 (some (.ref a) :: l) (.ref a :: r) M := r_aload_n (by decide +kernel : decode (mB 169) 47 = .ok (.aload_n 0, 1)) rfl
theorem t169_48 : rn 169 48 ls (.ref a :: r) M = rn 169 49 ls (.ref a :: .ref a :: r) M := r_nx (by decide +kernel : decode (mB 169) 48 = .ok (.dup, 1)) rfl rfl
theorem t169_49 : rn 169 49 ls (.ref a :: r) M = if mK M a = (19, 0) then rn 169 52 ls (.int (mI M a 11) :: r) M else none := r_getI (ci := 9) (k := 11) (by decide +kernel : decode (mB 169) 49 = .ok (.getfield 192, 3)) (by decide +kernel) (Or.inl rfl)
theorem t169_52 : rn 169 52 ls r M = rn 169 53 ls (.int 1 :: r) M := r_nx (by decide +kernel : decode (mB 169) 52 = .ok (.iconst 1, 1)) rfl rfl
theorem t169_53 : rn 169 53 ls (.int y :: .int x :: r) M = rn 169 54 ls (.int (x + y) :: r) M := r_nx (by decide +kernel : decode (mB 169) 53 = .ok (.iadd, 1)) rfl rfl
theorem t169_54 : rn 169 54 ls (.int x :: .ref a :: r) M = if mK M a = (19, 0) then rn 169 57 ls r (sI M a (va_up (mI M a) 11 x)) else none := r_putI (ci := 9) (k := 11) (by decide +kernel : decode (mB 169) 54 = .ok (.putfield 192, 3)) (by decide +kernel) rfl rfl
theorem t169_57 : rn 169 57 (a0 :: some (.int x) :: l) r M = rn 169 58 (a0 :: some (.int x) :: l) (.int x :: r) M := r_iload_n (by decide +kernel : decode (mB 169) 57 = .ok (.iload_n 1, 1)) rfl
theorem t169_58 : rn 169 58 ls (.int x :: r) M = if x ≤ 0 then rn 169 89 ls r M else rn 169 61 ls r M := r_if (o := 31) (r := r) (c := x ≤ 0) (by decide +kernel : decode (mB 169) 58 = .ok (.ifCond .le 31, 3)) rfl (by decide) rfl
theorem t169_61 : rn 169 61 (a0 :: some (.int x) :: l) r M = rn 169 62 (a0 :: some (.int x) :: l) (.int x :: r) M := r_iload_n (by decide +kernel : decode (mB 169) 61 = .ok (.iload_n 1, 1)) rfl
theorem t169_62 : rn 169 62 ls r M = rn 169 64 ls (.int 100 :: r) M := r_nx (by decide +kernel : decode (mB 169) 62 = .ok (.bipush 100, 2)) rfl rfl
theorem t169_64 : rn 169 64 ls (.int y :: .int x :: r) M = if y ≤ x then rn 169 89 ls r M else rn 169 67 ls r M := r_if (o := 25) (r := r) (c := y ≤ x) (by decide +kernel : decode (mB 169) 64 = .ok (.if_icmp .ge 25, 3)) rfl (by decide) rfl
theorem t169_67 : rn 169 67 (some (.ref a) :: l) r M = rn 169 68 (some (.ref a) :: l) (.ref a :: r) M := r_aload_n (by decide +kernel : decode (mB 169) 67 = .ok (.aload_n 0, 1)) rfl
theorem t169_68 : rn 169 68 (some (.ref a) :: l) r M = rn 169 69 (some (.ref a) :: l) (.ref a :: r) M := r_aload_n (by decide +kernel : decode (mB 169) 68 = .ok (.aload_n 0, 1)) rfl
theorem t169_69 : rn 169 69 ls (.ref a :: r) M = if mK M a = (19, 0) then rn 169 72 ls (.int (mI M a 11) :: r) M else none := r_getI (ci := 9) (k := 11) (by decide +kernel : decode (mB 169) 69 = .ok (.getfield 192, 3)) (by decide +kernel) (Or.inl rfl)
theorem t169_72 : rn 169 72 ls [.int x, .ref a] M = if mK M a = (19, 0) then cbn (cl 166 [.ref a, .int x] M) 169 75 ls [] else none := r_callV (kd := 0) (by decide +kernel : decode (mB 169) 72 = .ok (.invokevirtual 195, 3)) (by decide +kernel) ((doV_n np_166).trans rfl)
theorem t169_75 : rn 169 75 ls r M = rn 169 77 ls (.int 48 :: r) M := r_nx (by decide +kernel : decode (mB 169) 75 = .ok (.bipush 48, 2)) rfl rfl
theorem t169_77 : rn 169 77 ls r M = rn 169 79 ls (.int 57 :: r) M := r_nx (by decide +kernel : decode (mB 169) 77 = .ok (.bipush 57, 2)) rfl rfl
theorem t169_79 : rn 169 79 ls [.int x, .int y, .int z] M = cbn (cl 104 [.int z, .int y, .int x] M) 169 82 ls [] := r_callS (kd := 2) (by decide +kernel : decode (mB 169) 79 = .ok (.invokestatic 49, 3)) (by decide +kernel) (by decide +kernel) ((doS_n np_104).trans rfl)
theorem t169_82 : rn 169 82 ls (.int x :: r) M = if x = 0 then rn 169 89 ls r M else rn 169 85 ls r M := r_if (o := 7) (r := r) (c := x = 0) (by decide +kernel : decode (mB 169) 82 = .ok (.ifCond .eq 7, 3)) rfl (by decide) rfl
theorem t169_85 : rn 169 85 ls r M = rn 169 86 ls (.int 1 :: r) M := r_nx (by decide +kernel : decode (mB 169) 85 = .ok (.iconst 1, 1)) rfl rfl
theorem t169_86 : rn 169 86 ls r M = rn 169 90 ls r M := r_goto (o := 4) (by decide +kernel : decode (mB 169) 86 = .ok (.goto 4, 3)) (by decide)
theorem t169_89 : rn 169 89 ls r M = rn 169 90 ls (.int 0 :: r) M := r_nx (by decide +kernel : decode (mB 169) 89 = .ok (.iconst 0, 1)) rfl rfl
theorem t169_90 : rn 169 90 (a0 :: a1 :: a2 :: l) (.int x :: r) M = rn 169 91 (a0 :: a1 :: some (.int x) :: l) r M := r_istore_n (by decide +kernel : decode (mB 169) 90 = .ok (.istore_n 2, 1)) (Nat.le_add_left 3 l.length)
theorem t169_91 : rn 169 91 ls r M = rn 169 18 ls r M := r_goto (o := (-73)) (by decide +kernel : decode (mB 169) 91 = .ok (.goto (-73), 3)) (by decide)
theorem t169_94 : rn 169 94 (a0 :: some (.int x) :: l) r M = rn 169 95 (a0 :: some (.int x) :: l) (.int x :: r) M := r_iload_n (by decide +kernel : decode (mB 169) 94 = .ok (.iload_n 1, 1)) rfl
theorem t169_95 : rn 169 95 ls [.int x] M = some (some (.int x), M) := r_ireturn (by decide +kernel : decode (mB 169) 95 = .ok (.ireturn, 1)) rfl
-- 170 DRModel_carryOut()I
theorem t170_0 : rn 170 0 (some (.ref a) :: l) r M = rn 170 1 (some (.ref a) :: l) (.ref a :: r) M := r_aload_n (by decide +kernel : decode (mB 170) 0 = .ok (.aload_n 0, 1)) rfl
theorem t170_1 : rn 170 1 ls [.ref a] M = if mK M a = (19, 0) then cbn (cl 164 [.ref a] M) 170 4 ls [] else none := r_callV (kd := 0) (by decide +kernel : decode (mB 170) 1 = .ok (.invokevirtual 220, 3)) (by decide +kernel) ((doV_n np_164).trans rfl)
theorem t170_4 : rn 170 4 ls r M = rn 170 6 ls (.int (-6) :: r) M := r_nx (by decide +kernel : decode (mB 170) 4 = .ok (.bipush (-6), 2)) rfl rfl
theorem t170_6 : rn 170 6 ls (.int y :: .int x :: r) M = if x = y then rn 170 12 ls r M else rn 170 9 ls r M := r_if (o := 6) (r := r) (c := x = y) (by decide +kernel : decode (mB 170) 6 = .ok (.if_icmp .eq 6, 3)) rfl (by decide) rfl
theorem t170_9 : rn 170 9 ls r M = rn 170 11 ls (.int (-3) :: r) M := r_nx (by decide +kernel : decode (mB 170) 9 = .ok (.bipush (-3), 2)) rfl rfl
theorem t170_11 : rn 170 11 ls [.int x] M = some (some (.int x), M) := r_ireturn (by decide +kernel : decode (mB 170) 11 = .ok (.ireturn, 1)) rfl
theorem t170_12 : rn 170 12 (some (.ref a) :: l) r M = rn 170 13 (some (.ref a) :: l) (.ref a :: r) M := r_aload_n (by decide +kernel : decode (mB 170) 12 = .ok (.aload_n 0, 1)) rfl
theorem t170_13 : rn 170 13 ls [.ref a] M = if mK M a = (19, 0) then cbn (cl 106 [.ref a] M) 170 16 ls [] else none := r_callV (kd := 0) (by decide +kernel : decode (mB 170) 13 = .ok (.invokevirtual 133, 3)) (by decide +kernel) ((doV_n np_106).trans rfl)
theorem t170_16 : rn 170 16 ls r M = rn 170 17 ls (.int 0 :: r) M := r_nx (by decide +kernel : decode (mB 170) 16 = .ok (.iconst 0, 1)) rfl rfl
theorem t170_17 : rn 170 17 (a0 :: a1 :: l) (.int x :: r) M = rn 170 18 (a0 :: some (.int x) :: l) r M := r_istore_n (by decide +kernel : decode (mB 170) 17 = .ok (.istore_n 1, 1)) (Nat.le_add_left 2 l.length)
theorem t170_18 : rn 170 18 (some (.ref a) :: l) r M = rn 170 19 (some (.ref a) :: l) (.ref a :: r) M := r_aload_n (by decide +kernel : decode (mB 170) 18 = .ok (.aload_n 0, 1)) rfl
theorem t170_19 : rn 170 19 ls r M = rn 170 20 ls (.int 0 :: r) M := r_nx (by decide +kernel : decode (mB 170) 19 = .ok (.iconst 0, 1)) rfl rfl
theorem t170_20 : rn 170 20 ls (.int x :: .ref a :: r) M = if mK M a = (19, 0) then rn 170 23 ls r (sI M a (va_up (mI M a) 11 x)) else none := r_putI (ci := 9) (k := 11) (by decide +kernel : decode (mB 170) 20 = .ok (.putfield 192, 3)) (by decide +kernel) rfl rfl
theorem t170_23 : rn 170 23 ls r M = rn 170 24 ls (.int 1 :: r) M := r_nx (by decide +kernel : decode (mB 170) 23 = .ok (.iconst 1, 1)) rfl rfl
theorem t170_24 : rn 170 24 (a0 :: a1 :: a2 :: l) (.int x :: r) M = rn 170 25 (a0 :: a1 :: some (.int x) :: l) r M := r_istore_n (by decide +kernel : decode (mB 170) 24 = .ok (.istore_n 2, 1)) (Nat.le_add_left 3 l.length)
theorem t170_25 : rn 170 25 (a0 :: a1 :: some (.int x) :: l) r M = rn 170 26 (a0 :: a1 :: some (.int x) :: l) (.int x :: r) M := r_iload_n (by decide +kernel : decode (mB 170) 25 = .ok (.iload_n 2, 1)) rfl
theorem t170_26 : rn 170 26 ls (.int x :: r) M = if x = 0 then rn 170 79 ls r M else rn 170 29 ls r M := r_if (o := 53) (r := r) (c := x = 0) (by decide +kernel : decode (mB 170) 26 = .ok (.ifCond .eq 53, 3)) rfl (by decide) rfl
theorem t170_29 : rn 170 29 (some (.ref a) :: l) r M = rn 170 30 (some (.ref a) :: l) (.ref a :: r) M := r_aload_n (by decide +kernel : decode (mB 170) 29 = .ok (.aload_n 0, 1)) rfl
theorem t170_30 : rn 170 30 ls (.ref a :: r) M = if mK M a = (19, 0) then rn 170 33 ls (.int (mI M a 11) :: r) M else none := r_getI (ci := 9) (k := 11) (by decide +kernel : decode (mB 170) 30 = .ok (.getfield 192, 3)) (by decide +kernel) (Or.inl rfl)
theorem t170_33 : rn 170 33 (some (.ref a) :: l) r M = rn 170 34 (some (.ref a) :: l) (.ref a :: r) M := r_aload_n (by decide +kernel : decode (mB 170) 33 = .ok (.aload_n 0, 1)) rfl
theorem t170_34 : rn 170 34 ls (.ref a :: r) M = if mK M a = (19, 0) then rn 170 37 ls (.int (mI M a 7) :: r) M else none := r_getI (ci := 9) (k := 7) (by decide +kernel : decode (mB 170) 34 = .ok (.getfield 185, 3)) (by decide +kernel) (Or.inl rfl)
theorem t170_37 : rn 170 37 ls (.int y :: .int x :: r) M = if y ≤ x then rn 170 79 ls r M else rn 170 40 ls r M := r_if (o := 42) (r := r) (c := y ≤ x) (by decide +kernel : decode (mB 170) 37 = .ok (.if_icmp .ge 42, 3)) rfl (by decide) rfl
theorem t170_40 : rn 170 40 (some (.ref a) :: l) r M = rn 170 41 (some (.ref a) :: l) (.ref a :: r) M := r_aload_n (by decide +kernel : decode (mB 170) 40 = .ok (.aload_n 0, 1)) rfl
theorem t170_41 : rn 170 41 ls [.ref a] M = if mK M a = (19, 0) then cbn (cl 165 [.ref a] M) 170 44 ls [] else none := r_callV (kd := 0) (by decide +kernel : decode (mB 170) 41 = .ok (.invokevirtual 216, 3)) (by decide +kernel) ((doV_n np_165).trans rfl)
theorem t170_44 : rn 170 44 ls (.int x :: r) M = rn 170 45 ls r M := r_nx (by decide +kernel : decode (mB 170) 44 = .ok (.pop, 1)) rfl rfl
theorem t170_45 : rn 170 45 (some (.ref a) :: l) r M = rn 170 46 (some (.ref a) :: l) (.ref a :: r) M := r_aload_n (by decide +kernel : decode (mB 170) 45 = .ok (.aload_n 0, 1)) rfl
theorem t170_46 : rn 170 46 ls r M = rn 170 48 ls (.int 59 :: r) M := r_nx (by decide +kernel : decode (mB 170) 46 = .ok (.bipush 59, 2)) rfl rfl
theorem t170_48 : rn 170 48 ls [.int x, .ref a] M = if mK M a = (19, 0) then cbn (cl 168 [.ref a, .int x] M) 170 51 ls [] else none := r_callV (kd := 0) (by decide +kernel : decode (mB 170) 48 = .ok (.invokevirtual 207, 3)) (by decide +kernel) ((doV_n np_168).trans rfl)
theorem t170_51 : rn 170 51 ls (.int x :: r) M = rn 170 52 ls r M := r_nx (by decide +kernel : decode (mB 170) 51 = .ok (.pop, 1)) rfl rfl
theorem t170_52 : rn 170 52 (some (.ref a) :: l) r M = rn 170 53 (some (.ref a) :: l) (.ref a :: r) M := r_aload_n (by decide +kernel : decode (mB 170) 52 = .ok (.aload_n 0, 1)) rfl
theorem t170_53 : rn 170 53 ls [.ref a] M = if mK M a = (19, 0) then cbn (cl 171 [.ref a] M) 170 56 ls [] else none := r_callV (kd := 0) (by decide +kernel : decode (mB 170) 53 = .ok (.invokevirtual 223, 3)) (by decide +kernel) ((doV_n np_171).trans rfl)
theorem t170_56 : rn 170 56 ls (.int x :: r) M = if ¬ x = 0 then rn 170 63 ls r M else rn 170 59 ls r M := r_if (o := 7) (r := r) (c := ¬ x = 0) (by decide +kernel : decode (mB 170) 56 = .ok (.ifCond .ne 7, 3)) rfl (by decide) rfl
theorem t170_59 : rn 170 59 ls r M = rn 170 60 ls (.int 1 :: r) M := r_nx (by decide +kernel : decode (mB 170) 59 = .ok (.iconst 1, 1)) rfl rfl
theorem t170_60 : rn 170 60 ls r M = rn 170 64 ls r M := r_goto (o := 4) (by decide +kernel : decode (mB 170) 60 = .ok (.goto 4, 3)) (by decide)
theorem t170_63 : rn 170 63 ls r M = rn 170 64 ls (.int 0 :: r) M := r_nx (by decide +kernel : decode (mB 170) 63 = .ok (.iconst 0, 1)) rfl rfl
theorem t170_64 : rn 170 64 (a0 :: a1 :: a2 :: l) (.int x :: r) M = rn 170 65 (a0 :: a1 :: some (.int x) :: l) r M := r_istore_n (by decide +kernel : decode (mB 170) 64 = .ok (.istore_n 2, 1)) (Nat.le_add_left 3 l.length)
theorem t170_65 : rn 170 65 (a0 :: a1 :: some (.int x) :: l) r M = rn 170 66 (a0 :: a1 :: some (.int x) :: l) (.int x :: r) M := r_iload_n (by decide +kernel : decode (mB 170) 65 = .ok (.iload_n 2, 1)) rfl
theorem t170_66 : rn 170 66 ls (.int x :: r) M = if x = 0 then rn 170 25 ls r M else rn 170 69 ls r M := r_if (o := (-41)) (r := r) (c := x = 0) (by decide +kernel : decode (mB 170) 66 = .ok (.ifCond .eq (-41), 3)) rfl (by decide) rfl
theorem t170_69 : rn 170 69 (some (.ref a) :: l) r M = rn 170 70 (some (.ref a) :: l) (.ref a :: r) M := r_aload_n (by decide +kernel : decode (mB 170) 69 = .ok (.aload_n 0, 1)) rfl
theorem t170_70 : rn 170 70 ls [.ref a] M = if mK M a = (19, 0) then cbn (cl 172 [.ref a] M) 170 73 ls [] else none := r_callV (kd := 0) (by decide +kernel : decode (mB 170) 70 = .ok (.invokevirtual 226, 3)) (by decide +kernel) ((doV_n np_172).trans rfl)
theorem t170_73 : rn 170 73 (a0 :: some (.int x) :: l) r M = rn 170 76 (a0 :: some (.int (x + 1)) :: l) r M := r_iinc (by decide +kernel : decode (mB 170) 73 = .ok (.iinc 1 1, 3)) rfl
theorem t170_76 : rn 170 76 ls r M = rn 170 25 ls r M := r_goto (o := (-51)) (by decide +kernel : decode (mB 170) 76 = .ok (.goto (-51), 3)) (by decide)
theorem t170_79 : rn 170 79 (some (.ref a) :: l) r M = rn 170 80 (some (.ref a) :: l) (.ref a :: r) M := r_aload_n (by decide +kernel : decode (mB 170) 79 = .ok (.aload_n 0, 1)) rfl
theorem t170_80 : rn 170 80 ls r M = rn 170 81 ls (.int 0 :: r) M := r_nx (by decide +kernel : decode (mB 170) 80 = .ok (.iconst 0, 1)) rfl rfl
theorem t170_81 : rn 170 81 ls (.int x :: .ref a :: r) M = if mK M a = (19, 0) then rn 170 84 ls r (sI M a (va_up (mI M a) 7 x)) else none := r_putI (ci := 9) (k := 7) (by decide +kernel : decode (mB 170) 81 = .ok (.putfield 185, 3)) (by decide +kernel) rfl rfl
theorem t170_84 : rn 170 84 (a0 :: some (.int x) :: l) r M = rn 170 85 (a0 :: some (.int x) :: l) (.int x :: r) M := r_iload_n (by decide +kernel : decode (mB 170) 84 = .ok (.iload_n 1, 1)) rfl
theorem t170_85 : rn 170 85 ls [.int x] M = some (some (.int x), M) := r_ireturn (by decide +kernel : decode (mB 170) 85 = .ok (.ireturn, 1)) rfl
-- 171 DRModel_whyNotDone()I
theorem t171_0 : rn 171 0 (some (.ref a) :: l) r M = rn 171 1 (some (.ref a) :: l) (.ref a :: r) M := r_aload_n (by decide +kernel : decode (mB 171) 0 = .ok (.aload_n 0, 1)) rfl
theorem t171_1 : rn 171 1 ls (.ref a :: r) M = if mK M a = (19, 0) then rn 171 4 ls (.int (mI M a 12) :: r) M else none := r_getI (ci := 9) (k := 12) (by decide +kernel : decode (mB 171) 1 = .ok (.getfield 198, 3)) (by decide +kernel) (Or.inl rfl)
theorem t171_4 : rn 171 4 ls (.int x :: r) M = if x = 100 then rn 171 128 ls r M else if x = 102 then rn 171 149 ls r M else if x = 108 then rn 171 139 ls r M else if x = 109 then rn 171 100 ls r M else if x = 110 then rn 171 159 ls r M else if x = 118 then rn 171 100 ls r M else if x = 119 then rn 171 114 ls r M else rn 171 172 ls r M := by
  have D := (by decide +kernel : decode (mB 171) 4 = .ok (.tableswitch 168 100 119 #[124, 168, 145, 168, 168, 168, 168, 168, 135, 96, 155, 168, 168, 168, 168, 168, 168, 168, 96, 110], 96))
  by_cases h0 : x = 100
  · rw [h0, r_tab D]; rfl
  by_cases h1 : x = 101
  · rw [h1, r_tab D]; rfl
  by_cases h2 : x = 102
  · rw [h2, r_tab D]; rfl
  by_cases h3 : x = 103
  · rw [h3, r_tab D]; rfl
  by_cases h4 : x = 104
  · rw [h4, r_tab D]; rfl
  by_cases h5 : x = 105
  · rw [h5, r_tab D]; rfl
  by_cases h6 : x = 106
  · rw [h6, r_tab D]; rfl
  by_cases h7 : x = 107
  · rw [h7, r_tab D]; rfl
  by_cases h8 : x = 108
  · rw [h8, r_tab D]; rfl
  by_cases h9 : x = 109
  · rw [h9, r_tab D]; rfl
  by_cases h10 : x = 110
  · rw [h10, r_tab D]; rfl
  by_cases h11 : x = 111
  · rw [h11, r_tab D]; rfl
  by_cases h12 : x = 112
  · rw [h12, r_tab D]; rfl
  by_cases h13 : x = 113
  · rw [h13, r_tab D]; rfl
  by_cases h14 : x = 114
  · rw [h14, r_tab D]; rfl
  by_cases h15 : x = 115
  · rw [h15, r_tab D]; rfl
  by_cases h16 : x = 116
  · rw [h16, r_tab D]; rfl
  by_cases h17 : x = 117
  · rw [h17, r_tab D]; rfl
  by_cases h18 : x = 118
  · rw [h18, r_tab D]; rfl
  by_cases h19 : x = 119
  · rw [h19, r_tab D]; rfl
  rw [r_tabO D (by have e0 : x.toInt ≠ 100 := ti_ne h0; have e1 : x.toInt ≠ 101 := ti_ne h1; have e2 : x.toInt ≠ 102 := ti_ne h2; have e3 : x.toInt ≠ 103 := ti_ne h3; have e4 : x.toInt ≠ 104 := ti_ne h4; have e5 : x.toInt ≠ 105 := ti_ne h5; have e6 : x.toInt ≠ 106 := ti_ne h6; have e7 : x.toInt ≠ 107 := ti_ne h7; have e8 : x.toInt ≠ 108 := ti_ne h8; have e9 : x.toInt ≠ 109 := ti_ne h9; have e10 : x.toInt ≠ 110 := ti_ne h10; have e11 : x.toInt ≠ 111 := ti_ne h11; have e12 : x.toInt ≠ 112 := ti_ne h12; have e13 : x.toInt ≠ 113 := ti_ne h13; have e14 : x.toInt ≠ 114 := ti_ne h14; have e15 : x.toInt ≠ 115 := ti_ne h15; have e16 : x.toInt ≠ 116 := ti_ne h16; have e17 : x.toInt ≠ 117 := ti_ne h17; have e18 : x.toInt ≠ 118 := ti_ne h18; have e19 : x.toInt ≠ 119 := ti_ne h19; omega) (by decide), if_neg h0, if_neg h2, if_neg h8, if_neg h9, if_neg h10, if_neg h18, if_neg h19]
  rfl
theorem t171_100 : rn 171 100 (some (.ref a) :: l) r M = rn 171 101 (some (.ref a) :: l) (.ref a :: r) M := r_aload_n (by decide +kernel : decode (mB 171) 100 = .ok (.aload_n 0, 1)) rfl
theorem t171_101 : rn 171 101 (some (.ref a) :: l) r M = rn 171 102 (some (.ref a) :: l) (.ref a :: r) M := r_aload_n (by decide +kernel : decode (mB 171) 101 = .ok (.aload_n 0, 1)) rfl
theorem t171_102 : rn 171 102 ls (.ref a :: r) M = if mK M a = (19, 0) then rn 171 105 ls (.int (mI M a 13) :: r) M else none := r_getI (ci := 9) (k := 13) (by decide +kernel : decode (mB 171) 102 = .ok (.getfield 204, 3)) (by decide +kernel) (Or.inl rfl)
theorem t171_105 : rn 171 105 (some (.ref a) :: l) r M = rn 171 106 (some (.ref a) :: l) (.ref a :: r) M := r_aload_n (by decide +kernel : decode (mB 171) 105 = .ok (.aload_n 0, 1)) rfl
theorem t171_106 : rn 171 106 ls (.ref a :: r) M = if mK M a = (19, 0) then rn 171 109 ls (.int (mI M a 14) :: r) M else none := r_getI (ci := 9) (k := 14) (by decide +kernel : decode (mB 171) 106 = .ok (.getfield 210, 3)) (by decide +kernel) (Or.inl rfl)
theorem t171_109 : rn 171 109 ls r M = rn 171 110 ls (.int 0 :: r) M := r_nx (by decide +kernel : decode (mB 171) 109 = .ok (.iconst 0, 1)) rfl rfl
theorem t171_110 : rn 171 110 ls [.int x, .int y, .int z, .ref a] M = if mK M a = (19, 0) then cbn (cl 103 [.ref a, .int z, .int y, .int x] M) 171 113 ls [] else none := r_callV (kd := 0) (by decide +kernel : decode (mB 171) 110 = .ok (.invokevirtual 129, 3)) (by decide +kernel) ((doV_n np_103).trans rfl)
theorem t171_113 : rn 171 113 ls [.int x] M = some (some (.int x), M) := r_ireturn (by decide +kernel : decode (mB 171) 113 = .ok (.ireturn, 1)) rfl
theorem t171_114 : rn 171 114 (some (.ref a) :: l) r M = rn 171 115 (some (.ref a) :: l) (.ref a :: r) M := r_aload_n (by decide +kernel : decode (mB 171) 114 = .ok (.aload_n 0, 1)) rfl
theorem t171_115 : rn 171 115 (some (.ref a) :: l) r M = rn 171 116 (some (.ref a) :: l) (.ref a :: r) M := r_aload_n (by decide +kernel : decode (mB 171) 115 = .ok (.aload_n 0, 1)) rfl
theorem t171_116 : rn 171 116 ls (.ref a :: r) M = if mK M a = (19, 0) then rn 171 119 ls (.int (mI M a 13) :: r) M else none := r_getI (ci := 9) (k := 13) (by decide +kernel : decode (mB 171) 116 = .ok (.getfield 204, 3)) (by decide +kernel) (Or.inl rfl)
theorem t171_119 : rn 171 119 ls r M = rn 171 120 ls (.int 0 :: r) M := r_nx (by decide +kernel : decode (mB 171) 119 = .ok (.iconst 0, 1)) rfl rfl
theorem t171_120 : rn 171 120 (some (.ref a) :: l) r M = rn 171 121 (some (.ref a) :: l) (.ref a :: r) M := r_aload_n (by decide +kernel : decode (mB 171) 120 = .ok (.aload_n 0, 1)) rfl
theorem t171_121 : rn 171 121 ls (.ref a :: r) M = if mK M a = (19, 0) then rn 171 124 ls (.int (mI M a 14) :: r) M else none := r_getI (ci := 9) (k := 14) (by decide +kernel : decode (mB 171) 121 = .ok (.getfield 210, 3)) (by decide +kernel) (Or.inl rfl)
theorem t171_124 : rn 171 124 ls [.int x, .int y, .int z, .ref a] M = if mK M a = (19, 0) then cbn (cl 103 [.ref a, .int z, .int y, .int x] M) 171 127 ls [] else none := r_callV (kd := 0) (by decide +kernel : decode (mB 171) 124 = .ok (.invokevirtual 129, 3)) (by decide +kernel) ((doV_n np_103).trans rfl)
theorem t171_127 : rn 171 127 ls [.int x] M = some (some (.int x), M) := r_ireturn (by decide +kernel : decode (mB 171) 127 = .ok (.ireturn, 1)) rfl
theorem t171_128 : rn 171 128 (some (.ref a) :: l) r M = rn 171 129 (some (.ref a) :: l) (.ref a :: r) M := r_aload_n (by decide +kernel : decode (mB 171) 128 = .ok (.aload_n 0, 1)) rfl
theorem t171_129 : rn 171 129 (some (.ref a) :: l) r M = rn 171 130 (some (.ref a) :: l) (.ref a :: r) M := r_aload_n (by decide +kernel : decode (mB 171) 129 = .ok (.aload_n 0, 1)) rfl
theorem t171_130 : rn 171 130 ls (.ref a :: r) M = if mK M a = (19, 0) then rn 171 133 ls (.int (mI M a 13) :: r) M else none := r_getI (ci := 9) (k := 13) (by decide +kernel : decode (mB 171) 130 = .ok (.getfield 204, 3)) (by decide +kernel) (Or.inl rfl)
theorem t171_133 : rn 171 133 ls r M = rn 171 134 ls (.int 0 :: r) M := r_nx (by decide +kernel : decode (mB 171) 133 = .ok (.iconst 0, 1)) rfl rfl
theorem t171_134 : rn 171 134 ls r M = rn 171 135 ls (.int 0 :: r) M := r_nx (by decide +kernel : decode (mB 171) 134 = .ok (.iconst 0, 1)) rfl rfl
theorem t171_135 : rn 171 135 ls [.int x, .int y, .int z, .ref a] M = if mK M a = (19, 0) then cbn (cl 103 [.ref a, .int z, .int y, .int x] M) 171 138 ls [] else none := r_callV (kd := 0) (by decide +kernel : decode (mB 171) 135 = .ok (.invokevirtual 129, 3)) (by decide +kernel) ((doV_n np_103).trans rfl)
theorem t171_138 : rn 171 138 ls [.int x] M = some (some (.int x), M) := r_ireturn (by decide +kernel : decode (mB 171) 138 = .ok (.ireturn, 1)) rfl
theorem t171_139 : rn 171 139 (some (.ref a) :: l) r M = rn 171 140 (some (.ref a) :: l) (.ref a :: r) M := r_aload_n (by decide +kernel : decode (mB 171) 139 = .ok (.aload_n 0, 1)) rfl
theorem t171_140 : rn 171 140 (some (.ref a) :: l) r M = rn 171 141 (some (.ref a) :: l) (.ref a :: r) M := r_aload_n (by decide +kernel : decode (mB 171) 140 = .ok (.aload_n 0, 1)) rfl
theorem t171_141 : rn 171 141 ls (.ref a :: r) M = if mK M a = (19, 0) then rn 171 144 ls (.int (mI M a 13) :: r) M else none := r_getI (ci := 9) (k := 13) (by decide +kernel : decode (mB 171) 141 = .ok (.getfield 204, 3)) (by decide +kernel) (Or.inl rfl)
theorem t171_144 : rn 171 144 ls r M = rn 171 145 ls (.int 1 :: r) M := r_nx (by decide +kernel : decode (mB 171) 144 = .ok (.iconst 1, 1)) rfl rfl
theorem t171_145 : rn 171 145 ls [.int x, .int y, .ref a] M = if mK M a = (19, 0) then cbn (cl 127 [.ref a, .int y, .int x] M) 171 148 ls [] else none := r_callV (kd := 0) (by decide +kernel : decode (mB 171) 145 = .ok (.invokevirtual 158, 3)) (by decide +kernel) ((doV_n np_127).trans rfl)
theorem t171_148 : rn 171 148 ls [.int x] M = some (some (.int x), M) := r_ireturn (by decide +kernel : decode (mB 171) 148 = .ok (.ireturn, 1)) rfl
theorem t171_149 : rn 171 149 (some (.ref a) :: l) r M = rn 171 150 (some (.ref a) :: l) (.ref a :: r) M := r_aload_n (by decide +kernel : decode (mB 171) 149 = .ok (.aload_n 0, 1)) rfl
theorem t171_150 : rn 171 150 (some (.ref a) :: l) r M = rn 171 151 (some (.ref a) :: l) (.ref a :: r) M := r_aload_n (by decide +kernel : decode (mB 171) 150 = .ok (.aload_n 0, 1)) rfl
theorem t171_151 : rn 171 151 ls (.ref a :: r) M = if mK M a = (19, 0) then rn 171 154 ls (.int (mI M a 13) :: r) M else none := r_getI (ci := 9) (k := 13) (by decide +kernel : decode (mB 171) 151 = .ok (.getfield 204, 3)) (by decide +kernel) (Or.inl rfl)
theorem t171_154 : rn 171 154 ls r M = rn 171 155 ls (.int 0 :: r) M := r_nx (by decide +kernel : decode (mB 171) 154 = .ok (.iconst 0, 1)) rfl rfl
theorem t171_155 : rn 171 155 ls [.int x, .int y, .ref a] M = if mK M a = (19, 0) then cbn (cl 127 [.ref a, .int y, .int x] M) 171 158 ls [] else none := r_callV (kd := 0) (by decide +kernel : decode (mB 171) 155 = .ok (.invokevirtual 158, 3)) (by decide +kernel) ((doV_n np_127).trans rfl)
theorem t171_158 : rn 171 158 ls [.int x] M = some (some (.int x), M) := r_ireturn (by decide +kernel : decode (mB 171) 158 = .ok (.ireturn, 1)) rfl
theorem t171_159 : rn 171 159 (some (.ref a) :: l) r M = rn 171 160 (some (.ref a) :: l) (.ref a :: r) M := r_aload_n (by decide +kernel : decode (mB 171) 159 = .ok (.aload_n 0, 1)) rfl
theorem t171_160 : rn 171 160 (some (.ref a) :: l) r M = rn 171 161 (some (.ref a) :: l) (.ref a :: r) M := r_aload_n (by decide +kernel : decode (mB 171) 160 = .ok (.aload_n 0, 1)) rfl
theorem t171_161 : rn 171 161 ls (.ref a :: r) M = if mK M a = (19, 0) then rn 171 164 ls (.int (mI M a 13) :: r) M else none := r_getI (ci := 9) (k := 13) (by decide +kernel : decode (mB 171) 161 = .ok (.getfield 204, 3)) (by decide +kernel) (Or.inl rfl)
theorem t171_164 : rn 171 164 (some (.ref a) :: l) r M = rn 171 165 (some (.ref a) :: l) (.ref a :: r) M := r_aload_n (by decide +kernel : decode (mB 171) 164 = .ok (.aload_n 0, 1)) rfl
theorem t171_165 : rn 171 165 ls (.ref a :: r) M = if mK M a = (19, 0) then rn 171 168 ls (.int (mI M a 14) :: r) M else none := r_getI (ci := 9) (k := 14) (by decide +kernel : decode (mB 171) 165 = .ok (.getfield 210, 3)) (by decide +kernel) (Or.inl rfl)
theorem t171_168 : rn 171 168 ls [.int x, .int y, .ref a] M = if mK M a = (19, 0) then cbn (cl 120 [.ref a, .int y, .int x] M) 171 171 ls [] else none := r_callV (kd := 0) (by decide +kernel : decode (mB 171) 168 = .ok (.invokevirtual 145, 3)) (by decide +kernel) ((doV_n np_120).trans rfl)
theorem t171_171 : rn 171 171 ls [.int x] M = some (some (.int x), M) := r_ireturn (by decide +kernel : decode (mB 171) 171 = .ok (.ireturn, 1)) rfl
theorem t171_172 : rn 171 172 ls r M = rn 171 173 ls (.int 0 :: r) M := r_nx (by decide +kernel : decode (mB 171) 172 = .ok (.iconst 0, 1)) rfl rfl
theorem t171_173 : rn 171 173 ls [.int x] M = some (some (.int x), M) := r_ireturn (by decide +kernel : decode (mB 171) 173 = .ok (.ireturn, 1)) rfl
-- 172 DRModel_does()V
theorem t172_0 : rn 172 0 (some (.ref a) :: l) r M = rn 172 1 (some (.ref a) :: l) (.ref a :: r) M := r_aload_n (by decide +kernel : decode (mB 172) 0 = .ok (.aload_n 0, 1)) rfl
theorem t172_1 : rn 172 1 ls (.ref a :: r) M = if mK M a = (19, 0) then rn 172 4 ls (.int (mI M a 12) :: r) M else none := r_getI (ci := 9) (k := 12) (by decide +kernel : decode (mB 172) 1 = .ok (.getfield 198, 3)) (by decide +kernel) (Or.inl rfl)
theorem t172_4 : rn 172 4 ls (.int x :: r) M = if x = 100 then rn 172 151 ls r M else if x = 102 then rn 172 179 ls r M else if x = 108 then rn 172 166 ls r M else if x = 109 then rn 172 100 ls r M else if x = 110 then rn 172 192 ls r M else if x = 118 then rn 172 134 ls r M else if x = 119 then rn 172 117 ls r M else rn 172 208 ls r M := by
  have D := (by decide +kernel : decode (mB 172) 4 = .ok (.tableswitch 204 100 119 #[147, 204, 175, 204, 204, 204, 204, 204, 162, 96, 188, 204, 204, 204, 204, 204, 204, 204, 130, 113], 96))
  by_cases h0 : x = 100
  · rw [h0, r_tab D]; rfl
  by_cases h1 : x = 101
  · rw [h1, r_tab D]; rfl
  by_cases h2 : x = 102
  · rw [h2, r_tab D]; rfl
  by_cases h3 : x = 103
  · rw [h3, r_tab D]; rfl
  by_cases h4 : x = 104
  · rw [h4, r_tab D]; rfl
  by_cases h5 : x = 105
  · rw [h5, r_tab D]; rfl
  by_cases h6 : x = 106
  · rw [h6, r_tab D]; rfl
  by_cases h7 : x = 107
  · rw [h7, r_tab D]; rfl
  by_cases h8 : x = 108
  · rw [h8, r_tab D]; rfl
  by_cases h9 : x = 109
  · rw [h9, r_tab D]; rfl
  by_cases h10 : x = 110
  · rw [h10, r_tab D]; rfl
  by_cases h11 : x = 111
  · rw [h11, r_tab D]; rfl
  by_cases h12 : x = 112
  · rw [h12, r_tab D]; rfl
  by_cases h13 : x = 113
  · rw [h13, r_tab D]; rfl
  by_cases h14 : x = 114
  · rw [h14, r_tab D]; rfl
  by_cases h15 : x = 115
  · rw [h15, r_tab D]; rfl
  by_cases h16 : x = 116
  · rw [h16, r_tab D]; rfl
  by_cases h17 : x = 117
  · rw [h17, r_tab D]; rfl
  by_cases h18 : x = 118
  · rw [h18, r_tab D]; rfl
  by_cases h19 : x = 119
  · rw [h19, r_tab D]; rfl
  rw [r_tabO D (by have e0 : x.toInt ≠ 100 := ti_ne h0; have e1 : x.toInt ≠ 101 := ti_ne h1; have e2 : x.toInt ≠ 102 := ti_ne h2; have e3 : x.toInt ≠ 103 := ti_ne h3; have e4 : x.toInt ≠ 104 := ti_ne h4; have e5 : x.toInt ≠ 105 := ti_ne h5; have e6 : x.toInt ≠ 106 := ti_ne h6; have e7 : x.toInt ≠ 107 := ti_ne h7; have e8 : x.toInt ≠ 108 := ti_ne h8; have e9 : x.toInt ≠ 109 := ti_ne h9; have e10 : x.toInt ≠ 110 := ti_ne h10; have e11 : x.toInt ≠ 111 := ti_ne h11; have e12 : x.toInt ≠ 112 := ti_ne h12; have e13 : x.toInt ≠ 113 := ti_ne h13; have e14 : x.toInt ≠ 114 := ti_ne h14; have e15 : x.toInt ≠ 115 := ti_ne h15; have e16 : x.toInt ≠ 116 := ti_ne h16; have e17 : x.toInt ≠ 117 := ti_ne h17; have e18 : x.toInt ≠ 118 := ti_ne h18; have e19 : x.toInt ≠ 119 := ti_ne h19; omega) (by decide), if_neg h0, if_neg h2, if_neg h8, if_neg h9, if_neg h10, if_neg h18, if_neg h19]
  rfl
theorem t172_100 : rn 172 100 (some (.ref a) :: l) r M = rn 172 101 (some (.ref a) :: l) (.ref a :: r) M := r_aload_n (by decide +kernel : decode (mB 172) 100 = .ok (.aload_n 0, 1)) rfl
theorem t172_101 : rn 172 101 ls r M = rn 172 102 ls (.int 0 :: r) M := r_nx (by decide +kernel : decode (mB 172) 101 = .ok (.iconst 0, 1)) rfl rfl
theorem t172_102 : rn 172 102 (some (.ref a) :: l) r M = rn 172 103 (some (.ref a) :: l) (.ref a :: r) M := r_aload_n (by decide +kernel : decode (mB 172) 102 = .ok (.aload_n 0, 1)) rfl
theorem t172_103 : rn 172 103 ls (.ref a :: r) M = if mK M a = (19, 0) then rn 172 106 ls (.int (mI M a 13) :: r) M else none := r_getI (ci := 9) (k := 13) (by decide +kernel : decode (mB 172) 103 = .ok (.getfield 204, 3)) (by decide +kernel) (Or.inl rfl)
theorem t172_106 : rn 172 106 (some (.ref a) :: l) r M = rn 172 107 (some (.ref a) :: l) (.ref a :: r) M := r_aload_n (by decide +kernel : decode (mB 172) 106 = .ok (.aload_n 0, 1)) rfl
theorem t172_107 : rn 172 107 ls (.ref a :: r) M = if mK M a = (19, 0) then rn 172 110 ls (.int (mI M a 14) :: r) M else none := r_getI (ci := 9) (k := 14) (by decide +kernel : decode (mB 172) 107 = .ok (.getfield 210, 3)) (by decide +kernel) (Or.inl rfl)
theorem t172_110 : rn 172 110 ls [.int x, .int y, .int z, .ref a] M = if mK M a = (19, 0) then cbn (cl 108 [.ref a, .int z, .int y, .int x] M) 172 113 ls [] else none := r_callV (kd := 0) (by decide +kernel : decode (mB 172) 110 = .ok (.invokevirtual 136, 3)) (by decide +kernel) ((doV_n np_108).trans rfl)
theorem t172_113 : rn 172 113 ls (.int x :: r) M = rn 172 114 ls r M := r_nx (by decide +kernel : decode (mB 172) 113 = .ok (.pop, 1)) rfl rfl
theorem t172_114 : rn 172 114 ls r M = rn 172 213 ls r M := r_goto (o := 99) (by decide +kernel : decode (mB 172) 114 = .ok (.goto 99, 3)) (by decide)
theorem t172_117 : rn 172 117 (some (.ref a) :: l) r M = rn 172 118 (some (.ref a) :: l) (.ref a :: r) M := r_aload_n (by decide +kernel : decode (mB 172) 117 = .ok (.aload_n 0, 1)) rfl
theorem t172_118 : rn 172 118 ls r M = rn 172 119 ls (.int 1 :: r) M := r_nx (by decide +kernel : decode (mB 172) 118 = .ok (.iconst 1, 1)) rfl rfl
theorem t172_119 : rn 172 119 (some (.ref a) :: l) r M = rn 172 120 (some (.ref a) :: l) (.ref a :: r) M := r_aload_n (by decide +kernel : decode (mB 172) 119 = .ok (.aload_n 0, 1)) rfl
theorem t172_120 : rn 172 120 ls (.ref a :: r) M = if mK M a = (19, 0) then rn 172 123 ls (.int (mI M a 13) :: r) M else none := r_getI (ci := 9) (k := 13) (by decide +kernel : decode (mB 172) 120 = .ok (.getfield 204, 3)) (by decide +kernel) (Or.inl rfl)
theorem t172_123 : rn 172 123 (some (.ref a) :: l) r M = rn 172 124 (some (.ref a) :: l) (.ref a :: r) M := r_aload_n (by decide +kernel : decode (mB 172) 123 = .ok (.aload_n 0, 1)) rfl
theorem t172_124 : rn 172 124 ls (.ref a :: r) M = if mK M a = (19, 0) then rn 172 127 ls (.int (mI M a 14) :: r) M else none := r_getI (ci := 9) (k := 14) (by decide +kernel : decode (mB 172) 124 = .ok (.getfield 210, 3)) (by decide +kernel) (Or.inl rfl)
theorem t172_127 : rn 172 127 ls [.int x, .int y, .int z, .ref a] M = if mK M a = (19, 0) then cbn (cl 108 [.ref a, .int z, .int y, .int x] M) 172 130 ls [] else none := r_callV (kd := 0) (by decide +kernel : decode (mB 172) 127 = .ok (.invokevirtual 136, 3)) (by decide +kernel) ((doV_n np_108).trans rfl)
theorem t172_130 : rn 172 130 ls (.int x :: r) M = rn 172 131 ls r M := r_nx (by decide +kernel : decode (mB 172) 130 = .ok (.pop, 1)) rfl rfl
theorem t172_131 : rn 172 131 ls r M = rn 172 213 ls r M := r_goto (o := 82) (by decide +kernel : decode (mB 172) 131 = .ok (.goto 82, 3)) (by decide)
theorem t172_134 : rn 172 134 (some (.ref a) :: l) r M = rn 172 135 (some (.ref a) :: l) (.ref a :: r) M := r_aload_n (by decide +kernel : decode (mB 172) 134 = .ok (.aload_n 0, 1)) rfl
theorem t172_135 : rn 172 135 ls r M = rn 172 136 ls (.int 2 :: r) M := r_nx (by decide +kernel : decode (mB 172) 135 = .ok (.iconst 2, 1)) rfl rfl
theorem t172_136 : rn 172 136 (some (.ref a) :: l) r M = rn 172 137 (some (.ref a) :: l) (.ref a :: r) M := r_aload_n (by decide +kernel : decode (mB 172) 136 = .ok (.aload_n 0, 1)) rfl
theorem t172_137 : rn 172 137 ls (.ref a :: r) M = if mK M a = (19, 0) then rn 172 140 ls (.int (mI M a 13) :: r) M else none := r_getI (ci := 9) (k := 13) (by decide +kernel : decode (mB 172) 137 = .ok (.getfield 204, 3)) (by decide +kernel) (Or.inl rfl)
theorem t172_140 : rn 172 140 (some (.ref a) :: l) r M = rn 172 141 (some (.ref a) :: l) (.ref a :: r) M := r_aload_n (by decide +kernel : decode (mB 172) 140 = .ok (.aload_n 0, 1)) rfl
theorem t172_141 : rn 172 141 ls (.ref a :: r) M = if mK M a = (19, 0) then rn 172 144 ls (.int (mI M a 14) :: r) M else none := r_getI (ci := 9) (k := 14) (by decide +kernel : decode (mB 172) 141 = .ok (.getfield 210, 3)) (by decide +kernel) (Or.inl rfl)
theorem t172_144 : rn 172 144 ls [.int x, .int y, .int z, .ref a] M = if mK M a = (19, 0) then cbn (cl 108 [.ref a, .int z, .int y, .int x] M) 172 147 ls [] else none := r_callV (kd := 0) (by decide +kernel : decode (mB 172) 144 = .ok (.invokevirtual 136, 3)) (by decide +kernel) ((doV_n np_108).trans rfl)
theorem t172_147 : rn 172 147 ls (.int x :: r) M = rn 172 148 ls r M := r_nx (by decide +kernel : decode (mB 172) 147 = .ok (.pop, 1)) rfl rfl
theorem t172_148 : rn 172 148 ls r M = rn 172 213 ls r M := r_goto (o := 65) (by decide +kernel : decode (mB 172) 148 = .ok (.goto 65, 3)) (by decide)
theorem t172_151 : rn 172 151 (some (.ref a) :: l) r M = rn 172 152 (some (.ref a) :: l) (.ref a :: r) M := r_aload_n (by decide +kernel : decode (mB 172) 151 = .ok (.aload_n 0, 1)) rfl
theorem t172_152 : rn 172 152 ls r M = rn 172 153 ls (.int 3 :: r) M := r_nx (by decide +kernel : decode (mB 172) 152 = .ok (.iconst 3, 1)) rfl rfl
theorem t172_153 : rn 172 153 (some (.ref a) :: l) r M = rn 172 154 (some (.ref a) :: l) (.ref a :: r) M := r_aload_n (by decide +kernel : decode (mB 172) 153 = .ok (.aload_n 0, 1)) rfl
theorem t172_154 : rn 172 154 ls (.ref a :: r) M = if mK M a = (19, 0) then rn 172 157 ls (.int (mI M a 13) :: r) M else none := r_getI (ci := 9) (k := 13) (by decide +kernel : decode (mB 172) 154 = .ok (.getfield 204, 3)) (by decide +kernel) (Or.inl rfl)
theorem t172_157 : rn 172 157 ls r M = rn 172 159 ls (.int (-6) :: r) M := r_nx (by decide +kernel : decode (mB 172) 157 = .ok (.bipush (-6), 2)) rfl rfl
theorem t172_159 : rn 172 159 ls [.int x, .int y, .int z, .ref a] M = if mK M a = (19, 0) then cbn (cl 108 [.ref a, .int z, .int y, .int x] M) 172 162 ls [] else none := r_callV (kd := 0) (by decide +kernel : decode (mB 172) 159 = .ok (.invokevirtual 136, 3)) (by decide +kernel) ((doV_n np_108).trans rfl)
theorem t172_162 : rn 172 162 ls (.int x :: r) M = rn 172 163 ls r M := r_nx (by decide +kernel : decode (mB 172) 162 = .ok (.pop, 1)) rfl rfl
theorem t172_163 : rn 172 163 ls r M = rn 172 213 ls r M := r_goto (o := 50) (by decide +kernel : decode (mB 172) 163 = .ok (.goto 50, 3)) (by decide)
theorem t172_166 : rn 172 166 (some (.ref a) :: l) r M = rn 172 167 (some (.ref a) :: l) (.ref a :: r) M := r_aload_n (by decide +kernel : decode (mB 172) 166 = .ok (.aload_n 0, 1)) rfl
theorem t172_167 : rn 172 167 (some (.ref a) :: l) r M = rn 172 168 (some (.ref a) :: l) (.ref a :: r) M := r_aload_n (by decide +kernel : decode (mB 172) 167 = .ok (.aload_n 0, 1)) rfl
theorem t172_168 : rn 172 168 ls (.ref a :: r) M = if mK M a = (19, 0) then rn 172 171 ls (.int (mI M a 13) :: r) M else none := r_getI (ci := 9) (k := 13) (by decide +kernel : decode (mB 172) 168 = .ok (.getfield 204, 3)) (by decide +kernel) (Or.inl rfl)
theorem t172_171 : rn 172 171 ls r M = rn 172 172 ls (.int 1 :: r) M := r_nx (by decide +kernel : decode (mB 172) 171 = .ok (.iconst 1, 1)) rfl rfl
theorem t172_172 : rn 172 172 ls [.int x, .int y, .ref a] M = if mK M a = (19, 0) then cbn (cl 128 [.ref a, .int y, .int x] M) 172 175 ls [] else none := r_callV (kd := 0) (by decide +kernel : decode (mB 172) 172 = .ok (.invokevirtual 161, 3)) (by decide +kernel) ((doV_n np_128).trans rfl)
theorem t172_175 : rn 172 175 ls (.int x :: r) M = rn 172 176 ls r M := r_nx (by decide +kernel : decode (mB 172) 175 = .ok (.pop, 1)) rfl rfl
theorem t172_176 : rn 172 176 ls r M = rn 172 213 ls r M := r_goto (o := 37) (by decide +kernel : decode (mB 172) 176 = .ok (.goto 37, 3)) (by decide)
theorem t172_179 : rn 172 179 (some (.ref a) :: l) r M = rn 172 180 (some (.ref a) :: l) (.ref a :: r) M := r_aload_n (by decide +kernel : decode (mB 172) 179 = .ok (.aload_n 0, 1)) rfl
theorem t172_180 : rn 172 180 (some (.ref a) :: l) r M = rn 172 181 (some (.ref a) :: l) (.ref a :: r) M := r_aload_n (by decide +kernel : decode (mB 172) 180 = .ok (.aload_n 0, 1)) rfl
theorem t172_181 : rn 172 181 ls (.ref a :: r) M = if mK M a = (19, 0) then rn 172 184 ls (.int (mI M a 13) :: r) M else none := r_getI (ci := 9) (k := 13) (by decide +kernel : decode (mB 172) 181 = .ok (.getfield 204, 3)) (by decide +kernel) (Or.inl rfl)
theorem t172_184 : rn 172 184 ls r M = rn 172 185 ls (.int 0 :: r) M := r_nx (by decide +kernel : decode (mB 172) 184 = .ok (.iconst 0, 1)) rfl rfl
theorem t172_185 : rn 172 185 ls [.int x, .int y, .ref a] M = if mK M a = (19, 0) then cbn (cl 128 [.ref a, .int y, .int x] M) 172 188 ls [] else none := r_callV (kd := 0) (by decide +kernel : decode (mB 172) 185 = .ok (.invokevirtual 161, 3)) (by decide +kernel) ((doV_n np_128).trans rfl)
theorem t172_188 : rn 172 188 ls (.int x :: r) M = rn 172 189 ls r M := r_nx (by decide +kernel : decode (mB 172) 188 = .ok (.pop, 1)) rfl rfl
theorem t172_189 : rn 172 189 ls r M = rn 172 213 ls r M := r_goto (o := 24) (by decide +kernel : decode (mB 172) 189 = .ok (.goto 24, 3)) (by decide)
theorem t172_192 : rn 172 192 (some (.ref a) :: l) r M = rn 172 193 (some (.ref a) :: l) (.ref a :: r) M := r_aload_n (by decide +kernel : decode (mB 172) 192 = .ok (.aload_n 0, 1)) rfl
theorem t172_193 : rn 172 193 (some (.ref a) :: l) r M = rn 172 194 (some (.ref a) :: l) (.ref a :: r) M := r_aload_n (by decide +kernel : decode (mB 172) 193 = .ok (.aload_n 0, 1)) rfl
theorem t172_194 : rn 172 194 ls (.ref a :: r) M = if mK M a = (19, 0) then rn 172 197 ls (.int (mI M a 13) :: r) M else none := r_getI (ci := 9) (k := 13) (by decide +kernel : decode (mB 172) 194 = .ok (.getfield 204, 3)) (by decide +kernel) (Or.inl rfl)
theorem t172_197 : rn 172 197 (some (.ref a) :: l) r M = rn 172 198 (some (.ref a) :: l) (.ref a :: r) M := r_aload_n (by decide +kernel : decode (mB 172) 197 = .ok (.aload_n 0, 1)) rfl
theorem t172_198 : rn 172 198 ls (.ref a :: r) M = if mK M a = (19, 0) then rn 172 201 ls (.int (mI M a 14) :: r) M else none := r_getI (ci := 9) (k := 14) (by decide +kernel : decode (mB 172) 198 = .ok (.getfield 210, 3)) (by decide +kernel) (Or.inl rfl)
theorem t172_201 : rn 172 201 ls [.int x, .int y, .ref a] M = if mK M a = (19, 0) then cbn (cl 122 [.ref a, .int y, .int x] M) 172 204 ls [] else none := r_callV (kd := 0) (by decide +kernel : decode (mB 172) 201 = .ok (.invokevirtual 148, 3)) (by decide +kernel) ((doV_n np_122).trans rfl)
theorem t172_204 : rn 172 204 ls (.int x :: r) M = rn 172 205 ls r M := r_nx (by decide +kernel : decode (mB 172) 204 = .ok (.pop, 1)) rfl rfl
theorem t172_205 : rn 172 205 ls r M = rn 172 213 ls r M := r_goto (o := 8) (by decide +kernel : decode (mB 172) 205 = .ok (.goto 8, 3)) (by decide)
theorem t172_208 : rn 172 208 (some (.ref a) :: l) r M = rn 172 209 (some (.ref a) :: l) (.ref a :: r) M := r_aload_n (by decide +kernel : decode (mB 172) 208 = .ok (.aload_n 0, 1)) rfl
theorem t172_209 : rn 172 209 ls [.ref a] M = if mK M a = (19, 0) then cbn (cl 136 [.ref a] M) 172 212 ls [] else none := r_callV (kd := 0) (by decide +kernel : decode (mB 172) 209 = .ok (.invokevirtual 122, 3)) (by decide +kernel) ((doV_n np_136).trans rfl)
theorem t172_212 : rn 172 212 ls (.int x :: r) M = rn 172 213 ls r M := r_nx (by decide +kernel : decode (mB 172) 212 = .ok (.pop, 1)) rfl rfl
theorem t172_213 : rn 172 213 ls [] M = some (none, M) := r_vreturn (by decide +kernel : decode (mB 172) 213 = .ok (.return_, 1)) rfl
-- 173 DRModel_undo()I
theorem t173_0 : rn 173 0 (some (.ref a) :: l) r M = rn 173 1 (some (.ref a) :: l) (.ref a :: r) M := r_aload_n (by decide +kernel : decode (mB 173) 0 = .ok (.aload_n 0, 1)) rfl
theorem t173_1 : rn 173 1 ls (.ref a :: r) M = if mK M a = (19, 0) then rn 173 4 ls (.int (mI M a 3) :: r) M else none := r_getI (ci := 9) (k := 3) (by decide +kernel : decode (mB 173) 1 = .ok (.getfield 41, 3)) (by decide +kernel) (Or.inl rfl)
theorem t173_4 : rn 173 4 ls (.int x :: r) M = if ¬ x = 0 then rn 173 10 ls r M else rn 173 7 ls r M := r_if (o := 6) (r := r) (c := ¬ x = 0) (by decide +kernel : decode (mB 173) 4 = .ok (.ifCond .ne 6, 3)) rfl (by decide) rfl
theorem t173_7 : rn 173 7 ls r M = rn 173 9 ls (.int (-5) :: r) M := r_nx (by decide +kernel : decode (mB 173) 7 = .ok (.bipush (-5), 2)) rfl rfl
theorem t173_9 : rn 173 9 ls [.int x] M = some (some (.int x), M) := r_ireturn (by decide +kernel : decode (mB 173) 9 = .ok (.ireturn, 1)) rfl
theorem t173_10 : rn 173 10 (some (.ref a) :: l) r M = rn 173 11 (some (.ref a) :: l) (.ref a :: r) M := r_aload_n (by decide +kernel : decode (mB 173) 10 = .ok (.aload_n 0, 1)) rfl
theorem t173_11 : rn 173 11 ls (.ref a :: r) M = rn 173 12 ls (.ref a :: .ref a :: r) M := r_nx (by decide +kernel : decode (mB 173) 11 = .ok (.dup, 1)) rfl rfl
theorem t173_12 : rn 173 12 ls (.ref a :: r) M = if mK M a = (19, 0) then rn 173 15 ls (.int (mI M a 3) :: r) M else none := r_getI (ci := 9) (k := 3) (by decide +kernel : decode (mB 173) 12 = .ok (.getfield 41, 3)) (by decide +kernel) (Or.inl rfl)
theorem t173_15 : rn 173 15 ls r M = rn 173 16 ls (.int 1 :: r) M := r_nx (by decide +kernel : decode (mB 173) 15 = .ok (.iconst 1, 1)) rfl rfl
theorem t173_16 : rn 173 16 ls (.int y :: .int x :: r) M = rn 173 17 ls (.int (x - y) :: r) M := r_nx (by decide +kernel : decode (mB 173) 16 = .ok (.isub, 1)) rfl rfl
theorem t173_17 : rn 173 17 ls (.int x :: .ref a :: r) M = if mK M a = (19, 0) then rn 173 20 ls r (sI M a (va_up (mI M a) 3 x)) else none := r_putI (ci := 9) (k := 3) (by decide +kernel : decode (mB 173) 17 = .ok (.putfield 41, 3)) (by decide +kernel) rfl rfl
theorem t173_20 : rn 173 20 (some (.ref a) :: l) r M = rn 173 21 (some (.ref a) :: l) (.ref a :: r) M := r_aload_n (by decide +kernel : decode (mB 173) 20 = .ok (.aload_n 0, 1)) rfl
theorem t173_21 : rn 173 21 ls (.ref a :: r) M = if mK M a = (19, 0) then rn 173 24 ls (va_rf (mP M a 2) :: r) M else none := r_getP (ci := 9) (k := 2) (by decide +kernel : decode (mB 173) 21 = .ok (.getfield 16, 3)) (by decide +kernel) rfl
theorem t173_24 : rn 173 24 (some (.ref a) :: l) r M = rn 173 25 (some (.ref a) :: l) (.ref a :: r) M := r_aload_n (by decide +kernel : decode (mB 173) 24 = .ok (.aload_n 0, 1)) rfl
theorem t173_25 : rn 173 25 ls (.ref a :: r) M = if mK M a = (19, 0) then rn 173 28 ls (.int (mI M a 3) :: r) M else none := r_getI (ci := 9) (k := 3) (by decide +kernel : decode (mB 173) 25 = .ok (.getfield 41, 3)) (by decide +kernel) (Or.inl rfl)
theorem t173_28 : rn 173 28 ls r M = rn 173 31 ls (.int 370 :: r) M := r_nx (by decide +kernel : decode (mB 173) 28 = .ok (.sipush 370, 3)) rfl rfl
theorem t173_31 : rn 173 31 ls (.int y :: .int x :: r) M = rn 173 32 ls (.int (x * y) :: r) M := r_nx (by decide +kernel : decode (mB 173) 31 = .ok (.imul, 1)) rfl rfl
theorem t173_32 : rn 173 32 (some (.ref a) :: l) r M = rn 173 33 (some (.ref a) :: l) (.ref a :: r) M := r_aload_n (by decide +kernel : decode (mB 173) 32 = .ok (.aload_n 0, 1)) rfl
theorem t173_33 : rn 173 33 ls (.ref a :: r) M = if mK M a = (19, 0) then rn 173 36 ls (va_rf (mP M a 0) :: r) M else none := r_getP (ci := 9) (k := 0) (by decide +kernel : decode (mB 173) 33 = .ok (.getfield 7, 3)) (by decide +kernel) rfl
theorem t173_36 : rn 173 36 ls r M = rn 173 37 ls (.int 0 :: r) M := r_nx (by decide +kernel : decode (mB 173) 36 = .ok (.iconst 0, 1)) rfl rfl
theorem t173_37 : rn 173 37 ls [.int x, .ref a, .int y, .ref b] M = cbn (cl 107 [.ref b, .int y, .ref a, .int x] M) 173 40 ls [] := r_callS (kd := 2) (by decide +kernel : decode (mB 173) 37 = .ok (.invokestatic 45, 3)) (by decide +kernel) (by decide +kernel) ((doS_n np_107).trans rfl)
theorem t173_40 : rn 173 40 (some (.ref a) :: l) r M = rn 173 41 (some (.ref a) :: l) (.ref a :: r) M := r_aload_n (by decide +kernel : decode (mB 173) 40 = .ok (.aload_n 0, 1)) rfl
theorem t173_41 : rn 173 41 ls (.ref a :: r) M = if mK M a = (19, 0) then rn 173 44 ls (.int (mI M a 3) :: r) M else none := r_getI (ci := 9) (k := 3) (by decide +kernel : decode (mB 173) 41 = .ok (.getfield 41, 3)) (by decide +kernel) (Or.inl rfl)
theorem t173_44 : rn 173 44 ls [.int x] M = some (some (.int x), M) := r_ireturn (by decide +kernel : decode (mB 173) 44 = .ok (.ireturn, 1)) rfl
-- 174 DRModel_save(I)I
theorem t174_0 : rn 174 0 (a0 :: some (.int x) :: l) r M = rn 174 1 (a0 :: some (.int x) :: l) (.int x :: r) M := r_iload_n (by decide +kernel : decode (mB 174) 0 = .ok (.iload_n 1, 1)) rfl
theorem t174_1 : rn 174 1 ls r M = rn 174 2 ls (.int 0 :: r) M := r_nx (by decide +kernel : decode (mB 174) 1 = .ok (.iconst 0, 1)) rfl rfl
theorem t174_2 : rn 174 2 ls r M = rn 174 3 ls (.int 1 :: r) M := r_nx (by decide +kernel : decode (mB 174) 2 = .ok (.iconst 1, 1)) rfl rfl
theorem t174_3 : rn 174 3 ls [.int x, .int y, .int z] M = cbn (cl 104 [.int z, .int y, .int x] M) 174 6 ls [] := r_callS (kd := 2) (by decide +kernel : decode (mB 174) 3 = .ok (.invokestatic 49, 3)) (by decide +kernel) (by decide +kernel) ((doS_n np_104).trans rfl)
theorem t174_6 : rn 174 6 ls (.int x :: r) M = if ¬ x = 0 then rn 174 12 ls r M else rn 174 9 ls r M := r_if (o := 6) (r := r) (c := ¬ x = 0) (by decide +kernel : decode (mB 174) 6 = .ok (.ifCond .ne 6, 3)) rfl (by decide) rfl
theorem t174_9 : rn 174 9 ls r M = rn 174 11 ls (.int (-2) :: r) M := r_nx (by decide +kernel : decode (mB 174) 9 = .ok (.bipush (-2), 2)) rfl rfl
theorem t174_11 : rn 174 11 ls [.int x] M = some (some (.int x), M) := r_ireturn (by decide +kernel : decode (mB 174) 11 = .ok (.ireturn, 1)) rfl
theorem t174_12 : rn 174 12 (some (.ref a) :: l) r M = rn 174 13 (some (.ref a) :: l) (.ref a :: r) M := r_aload_n (by decide +kernel : decode (mB 174) 12 = .ok (.aload_n 0, 1)) rfl
theorem t174_13 : rn 174 13 ls (.ref a :: r) M = if mK M a = (19, 0) then rn 174 16 ls (va_rf (mP M a 0) :: r) M else none := r_getP (ci := 9) (k := 0) (by decide +kernel : decode (mB 174) 13 = .ok (.getfield 7, 3)) (by decide +kernel) rfl
theorem t174_16 : rn 174 16 ls r M = rn 174 17 ls (.int 0 :: r) M := r_nx (by decide +kernel : decode (mB 174) 16 = .ok (.iconst 0, 1)) rfl rfl
theorem t174_17 : rn 174 17 (some (.ref a) :: l) r M = rn 174 18 (some (.ref a) :: l) (.ref a :: r) M := r_aload_n (by decide +kernel : decode (mB 174) 17 = .ok (.aload_n 0, 1)) rfl
theorem t174_18 : rn 174 18 ls (.ref a :: r) M = if mK M a = (19, 0) then rn 174 21 ls (va_rf (mP M a 4) :: r) M else none := r_getP (ci := 9) (k := 4) (by decide +kernel : decode (mB 174) 18 = .ok (.getfield 19, 3)) (by decide +kernel) rfl
theorem t174_21 : rn 174 21 ls r M = rn 174 24 ls (.int 370 :: r) M := r_nx (by decide +kernel : decode (mB 174) 21 = .ok (.sipush 370, 3)) rfl rfl
theorem t174_24 : rn 174 24 (a0 :: some (.int x) :: l) r M = rn 174 25 (a0 :: some (.int x) :: l) (.int x :: r) M := r_iload_n (by decide +kernel : decode (mB 174) 24 = .ok (.iload_n 1, 1)) rfl
theorem t174_25 : rn 174 25 ls (.int y :: .int x :: r) M = rn 174 26 ls (.int (x * y) :: r) M := r_nx (by decide +kernel : decode (mB 174) 25 = .ok (.imul, 1)) rfl rfl
theorem t174_26 : rn 174 26 ls [.int x, .ref a, .int y, .ref b] M = cbn (cl 107 [.ref b, .int y, .ref a, .int x] M) 174 29 ls [] := r_callS (kd := 2) (by decide +kernel : decode (mB 174) 26 = .ok (.invokestatic 45, 3)) (by decide +kernel) (by decide +kernel) ((doS_n np_107).trans rfl)
theorem t174_29 : rn 174 29 (some (.ref a) :: l) r M = rn 174 30 (some (.ref a) :: l) (.ref a :: r) M := r_aload_n (by decide +kernel : decode (mB 174) 29 = .ok (.aload_n 0, 1)) rfl
theorem t174_30 : rn 174 30 ls (.ref a :: r) M = if mK M a = (19, 0) then rn 174 33 ls (va_rf (mP M a 5) :: r) M else none := r_getP (ci := 9) (k := 5) (by decide +kernel : decode (mB 174) 30 = .ok (.getfield 22, 3)) (by decide +kernel) rfl
theorem t174_33 : rn 174 33 (a0 :: some (.int x) :: l) r M = rn 174 34 (a0 :: some (.int x) :: l) (.int x :: r) M := r_iload_n (by decide +kernel : decode (mB 174) 33 = .ok (.iload_n 1, 1)) rfl
theorem t174_34 : rn 174 34 ls r M = rn 174 35 ls (.int 1 :: r) M := r_nx (by decide +kernel : decode (mB 174) 34 = .ok (.iconst 1, 1)) rfl rfl
theorem t174_35 : rn 174 35 ls (.int y :: .int x :: .ref a :: r) M = if (mK M a).1 = 1 ∧ inR x (mK M a).2 then rn 174 36 ls r (sI M a (va_up (mI M a) x.toNatClampNeg y)) else none := r_cnd (by decide +kernel : decode (mB 174) 35 = .ok (.iastore, 1)) rfl rfl
theorem t174_36 : rn 174 36 (some (.ref a) :: l) r M = rn 174 37 (some (.ref a) :: l) (.ref a :: r) M := r_aload_n (by decide +kernel : decode (mB 174) 36 = .ok (.aload_n 0, 1)) rfl
theorem t174_37 : rn 174 37 ls (.ref a :: r) M = if mK M a = (19, 0) then rn 174 40 ls (va_rf (mP M a 0) :: r) M else none := r_getP (ci := 9) (k := 0) (by decide +kernel : decode (mB 174) 37 = .ok (.getfield 7, 3)) (by decide +kernel) rfl
theorem t174_40 : rn 174 40 ls r M = rn 174 41 ls (.int 0 :: r) M := r_nx (by decide +kernel : decode (mB 174) 40 = .ok (.iconst 0, 1)) rfl rfl
theorem t174_41 : rn 174 41 ls (.int x :: .ref a :: r) M = if ((mK M a).1 = 1 ∨ (mK M a).1 = 5) ∧ inR x (mK M a).2 then rn 174 42 ls (.int (mI M a x.toNatClampNeg) :: r) M else none := r_cnd (by decide +kernel : decode (mB 174) 41 = .ok (.iaload, 1)) rfl rfl
theorem t174_42 : rn 174 42 ls [.int x] M = some (some (.int x), M) := r_ireturn (by decide +kernel : decode (mB 174) 42 = .ok (.ireturn, 1)) rfl
-- 175 DRModel_restore(I)I
theorem t175_0 : rn 175 0 (a0 :: some (.int x) :: l) r M = rn 175 1 (a0 :: some (.int x) :: l) (.int x :: r) M := r_iload_n (by decide +kernel : decode (mB 175) 0 = .ok (.iload_n 1, 1)) rfl
theorem t175_1 : rn 175 1 ls r M = rn 175 2 ls (.int 0 :: r) M := r_nx (by decide +kernel : decode (mB 175) 1 = .ok (.iconst 0, 1)) rfl rfl
theorem t175_2 : rn 175 2 ls r M = rn 175 3 ls (.int 1 :: r) M := r_nx (by decide +kernel : decode (mB 175) 2 = .ok (.iconst 1, 1)) rfl rfl
theorem t175_3 : rn 175 3 ls [.int x, .int y, .int z] M = cbn (cl 104 [.int z, .int y, .int x] M) 175 6 ls [] := r_callS (kd := 2) (by decide +kernel : decode (mB 175) 3 = .ok (.invokestatic 49, 3)) (by decide +kernel) (by decide +kernel) ((doS_n np_104).trans rfl)
theorem t175_6 : rn 175 6 ls (.int x :: r) M = if ¬ x = 0 then rn 175 12 ls r M else rn 175 9 ls r M := r_if (o := 6) (r := r) (c := ¬ x = 0) (by decide +kernel : decode (mB 175) 6 = .ok (.ifCond .ne 6, 3)) rfl (by decide) rfl
theorem t175_9 : rn 175 9 ls r M = rn 175 11 ls (.int (-2) :: r) M := r_nx (by decide +kernel : decode (mB 175) 9 = .ok (.bipush (-2), 2)) rfl rfl
theorem t175_11 : rn 175 11 ls [.int x] M = some (some (.int x), M) := r_ireturn (by decide +kernel : decode (mB 175) 11 = .ok (.ireturn, 1)) rfl
theorem t175_12 : rn 175 12 (some (.ref a) :: l) r M = rn 175 13 (some (.ref a) :: l) (.ref a :: r) M := r_aload_n (by decide +kernel : decode (mB 175) 12 = .ok (.aload_n 0, 1)) rfl
theorem t175_13 : rn 175 13 ls (.ref a :: r) M = if mK M a = (19, 0) then rn 175 16 ls (va_rf (mP M a 5) :: r) M else none := r_getP (ci := 9) (k := 5) (by decide +kernel : decode (mB 175) 13 = .ok (.getfield 22, 3)) (by decide +kernel) rfl
theorem t175_16 : rn 175 16 (a0 :: some (.int x) :: l) r M = rn 175 17 (a0 :: some (.int x) :: l) (.int x :: r) M := r_iload_n (by decide +kernel : decode (mB 175) 16 = .ok (.iload_n 1, 1)) rfl
theorem t175_17 : rn 175 17 ls (.int x :: .ref a :: r) M = if ((mK M a).1 = 1 ∨ (mK M a).1 = 5) ∧ inR x (mK M a).2 then rn 175 18 ls (.int (mI M a x.toNatClampNeg) :: r) M else none := r_cnd (by decide +kernel : decode (mB 175) 17 = .ok (.iaload, 1)) rfl rfl
theorem t175_18 : rn 175 18 ls (.int x :: r) M = if ¬ x = 0 then rn 175 24 ls r M else rn 175 21 ls r M := r_if (o := 6) (r := r) (c := ¬ x = 0) (by decide +kernel : decode (mB 175) 18 = .ok (.ifCond .ne 6, 3)) rfl (by decide) rfl
theorem t175_21 : rn 175 21 ls r M = rn 175 23 ls (.int (-5) :: r) M := r_nx (by decide +kernel : decode (mB 175) 21 = .ok (.bipush (-5), 2)) rfl rfl
theorem t175_23 : rn 175 23 ls [.int x] M = some (some (.int x), M) := r_ireturn (by decide +kernel : decode (mB 175) 23 = .ok (.ireturn, 1)) rfl
theorem t175_24 : rn 175 24 (some (.ref a) :: l) r M = rn 175 25 (some (.ref a) :: l) (.ref a :: r) M := r_aload_n (by decide +kernel : decode (mB 175) 24 = .ok (.aload_n 0, 1)) rfl
theorem t175_25 : rn 175 25 ls [.ref a] M = if mK M a = (19, 0) then cbn (cl 106 [.ref a] M) 175 28 ls [] else none := r_callV (kd := 0) (by decide +kernel : decode (mB 175) 25 = .ok (.invokevirtual 133, 3)) (by decide +kernel) ((doV_n np_106).trans rfl)
theorem t175_28 : rn 175 28 (some (.ref a) :: l) r M = rn 175 29 (some (.ref a) :: l) (.ref a :: r) M := r_aload_n (by decide +kernel : decode (mB 175) 28 = .ok (.aload_n 0, 1)) rfl
theorem t175_29 : rn 175 29 ls (.ref a :: r) M = if mK M a = (19, 0) then rn 175 32 ls (va_rf (mP M a 4) :: r) M else none := r_getP (ci := 9) (k := 4) (by decide +kernel : decode (mB 175) 29 = .ok (.getfield 19, 3)) (by decide +kernel) rfl
theorem t175_32 : rn 175 32 ls r M = rn 175 35 ls (.int 370 :: r) M := r_nx (by decide +kernel : decode (mB 175) 32 = .ok (.sipush 370, 3)) rfl rfl
theorem t175_35 : rn 175 35 (a0 :: some (.int x) :: l) r M = rn 175 36 (a0 :: some (.int x) :: l) (.int x :: r) M := r_iload_n (by decide +kernel : decode (mB 175) 35 = .ok (.iload_n 1, 1)) rfl
theorem t175_36 : rn 175 36 ls (.int y :: .int x :: r) M = rn 175 37 ls (.int (x * y) :: r) M := r_nx (by decide +kernel : decode (mB 175) 36 = .ok (.imul, 1)) rfl rfl
theorem t175_37 : rn 175 37 (some (.ref a) :: l) r M = rn 175 38 (some (.ref a) :: l) (.ref a :: r) M := r_aload_n (by decide +kernel : decode (mB 175) 37 = .ok (.aload_n 0, 1)) rfl
theorem t175_38 : rn 175 38 ls (.ref a :: r) M = if mK M a = (19, 0) then rn 175 41 ls (va_rf (mP M a 0) :: r) M else none := r_getP (ci := 9) (k := 0) (by decide +kernel : decode (mB 175) 38 = .ok (.getfield 7, 3)) (by decide +kernel) rfl
theorem t175_41 : rn 175 41 ls r M = rn 175 42 ls (.int 0 :: r) M := r_nx (by decide +kernel : decode (mB 175) 41 = .ok (.iconst 0, 1)) rfl rfl
theorem t175_42 : rn 175 42 ls [.int x, .ref a, .int y, .ref b] M = cbn (cl 107 [.ref b, .int y, .ref a, .int x] M) 175 45 ls [] := r_callS (kd := 2) (by decide +kernel : decode (mB 175) 42 = .ok (.invokestatic 45, 3)) (by decide +kernel) (by decide +kernel) ((doS_n np_107).trans rfl)
theorem t175_45 : rn 175 45 (some (.ref a) :: l) r M = rn 175 46 (some (.ref a) :: l) (.ref a :: r) M := r_aload_n (by decide +kernel : decode (mB 175) 45 = .ok (.aload_n 0, 1)) rfl
theorem t175_46 : rn 175 46 ls (.ref a :: r) M = if mK M a = (19, 0) then rn 175 49 ls (va_rf (mP M a 0) :: r) M else none := r_getP (ci := 9) (k := 0) (by decide +kernel : decode (mB 175) 46 = .ok (.getfield 7, 3)) (by decide +kernel) rfl
theorem t175_49 : rn 175 49 ls r M = rn 175 50 ls (.int 0 :: r) M := r_nx (by decide +kernel : decode (mB 175) 49 = .ok (.iconst 0, 1)) rfl rfl
theorem t175_50 : rn 175 50 ls (.int x :: .ref a :: r) M = if ((mK M a).1 = 1 ∨ (mK M a).1 = 5) ∧ inR x (mK M a).2 then rn 175 51 ls (.int (mI M a x.toNatClampNeg) :: r) M else none := r_cnd (by decide +kernel : decode (mB 175) 50 = .ok (.iaload, 1)) rfl rfl
theorem t175_51 : rn 175 51 ls [.int x] M = some (some (.int x), M) := r_ireturn (by decide +kernel : decode (mB 175) 51 = .ok (.ireturn, 1)) rfl
end S4
