/-! step rows, by program (wip/whole/gen13.py): law -/
section S5
variable {a0 a1 a2 a3 a4 a5 a6 a7 a8 a9 : Option Value} {l ls : List (Option Value)} {r : List Value} {M : SM} {x y z w p k : Int32} {u v s : Int64} {a b c d : Nat}

-- 176 DRLaw_law([I)Z
theorem t176_0 : rn 176 0 ls r M = rn 176 3 ls (.ref (mS M) :: r) (nw M (10, 0) 6) := r_new (ci := 0) (by decide +kernel : decode (mB 176) 0 = .ok (.new 7, 3)) (by decide +kernel) (by decide)
theorem t176_3 : rn 176 3 ls (.ref a :: r) M = rn 176 4 ls (.ref a :: .ref a :: r) M := r_nx (by decide +kernel : decode (mB 176) 3 = .ok (.dup, 1)) rfl rfl
theorem t176_4 : rn 176 4 ls [.ref a, .ref b] M = cbn (cl 0 [.ref a] M) 176 7 ls [.ref b] := r_callI (kd := 4) (by decide +kernel : decode (mB 176) 4 = .ok (.invokespecial 9, 3)) (by decide +kernel) (by decide +kernel) ((doI_n np_0).trans rfl)
theorem t176_7 : rn 176 7 (a0 :: a1 :: l) (.ref a :: r) M = rn 176 8 (a0 :: some (.ref a) :: l) r M := r_astore_n (by decide +kernel : decode (mB 176) 7 = .ok (.astore_n 1, 1)) (Nat.le_add_left 2 l.length)
theorem t176_8 : rn 176 8 ls r M = rn 176 11 ls (.ref (mS M) :: r) (nw M (19, 0) 15) := r_new (ci := 9) (by decide +kernel : decode (mB 176) 8 = .ok (.new 10, 3)) (by decide +kernel) (by decide)
theorem t176_11 : rn 176 11 ls (.ref a :: r) M = rn 176 12 ls (.ref a :: .ref a :: r) M := r_nx (by decide +kernel : decode (mB 176) 11 = .ok (.dup, 1)) rfl rfl
theorem t176_12 : rn 176 12 ls [.ref a, .ref b] M = cbn (cl 99 [.ref a] M) 176 15 ls [.ref b] := r_callI (kd := 4) (by decide +kernel : decode (mB 176) 12 = .ok (.invokespecial 12, 3)) (by decide +kernel) (by decide +kernel) ((doI_n np_99).trans rfl)
theorem t176_15 : rn 176 15 (a0 :: a1 :: a2 :: l) (.ref a :: r) M = rn 176 16 (a0 :: a1 :: some (.ref a) :: l) r M := r_astore_n (by decide +kernel : decode (mB 176) 15 = .ok (.astore_n 2, 1)) (Nat.le_add_left 3 l.length)
theorem t176_16 : rn 176 16 ls r M = rn 176 17 ls (.int 0 :: r) M := r_nx (by decide +kernel : decode (mB 176) 16 = .ok (.iconst 0, 1)) rfl rfl
theorem t176_17 : rn 176 17 (a0 :: a1 :: a2 :: a3 :: l) (.int x :: r) M = rn 176 18 (a0 :: a1 :: a2 :: some (.int x) :: l) r M := r_istore_n (by decide +kernel : decode (mB 176) 17 = .ok (.istore_n 3, 1)) (Nat.le_add_left 4 l.length)
theorem t176_18 : rn 176 18 (a0 :: a1 :: a2 :: some (.int x) :: l) r M = rn 176 19 (a0 :: a1 :: a2 :: some (.int x) :: l) (.int x :: r) M := r_iload_n (by decide +kernel : decode (mB 176) 18 = .ok (.iload_n 3, 1)) rfl
theorem t176_19 : rn 176 19 (some (.ref a) :: l) r M = rn 176 20 (some (.ref a) :: l) (.ref a :: r) M := r_aload_n (by decide +kernel : decode (mB 176) 19 = .ok (.aload_n 0, 1)) rfl
theorem t176_20 : rn 176 20 ls (.ref a :: r) M = if (mK M a).1 = 1 ∨ (mK M a).1 = 5 then rn 176 21 ls (.int (Int32.ofNat (mK M a).2) :: r) M else none := r_cnd (by decide +kernel : decode (mB 176) 20 = .ok (.arraylength, 1)) rfl rfl
theorem t176_21 : rn 176 21 ls r M = rn 176 22 ls (.int 3 :: r) M := r_nx (by decide +kernel : decode (mB 176) 21 = .ok (.iconst 3, 1)) rfl rfl
theorem t176_22 : rn 176 22 ls (.int y :: .int x :: r) M = rn 176 23 ls (.int (x - y) :: r) M := r_nx (by decide +kernel : decode (mB 176) 22 = .ok (.isub, 1)) rfl rfl
theorem t176_23 : rn 176 23 ls (.int y :: .int x :: r) M = if y < x then rn 176 769 ls r M else rn 176 26 ls r M := r_if (o := 746) (r := r) (c := y < x) (by decide +kernel : decode (mB 176) 23 = .ok (.if_icmp .gt 746, 3)) rfl (by decide) rfl
theorem t176_26 : rn 176 26 (some (.ref a) :: l) r M = rn 176 27 (some (.ref a) :: l) (.ref a :: r) M := r_aload_n (by decide +kernel : decode (mB 176) 26 = .ok (.aload_n 0, 1)) rfl
theorem t176_27 : rn 176 27 (a0 :: a1 :: a2 :: some (.int x) :: l) r M = rn 176 28 (a0 :: a1 :: a2 :: some (.int x) :: l) (.int x :: r) M := r_iload_n (by decide +kernel : decode (mB 176) 27 = .ok (.iload_n 3, 1)) rfl
theorem t176_28 : rn 176 28 ls (.int x :: .ref a :: r) M = if ((mK M a).1 = 1 ∨ (mK M a).1 = 5) ∧ inR x (mK M a).2 then rn 176 29 ls (.int (mI M a x.toNatClampNeg) :: r) M else none := r_cnd (by decide +kernel : decode (mB 176) 28 = .ok (.iaload, 1)) rfl rfl
theorem t176_29 : rn 176 29 ls r M = rn 176 31 ls (.int 31 :: r) M := r_nx (by decide +kernel : decode (mB 176) 29 = .ok (.bipush 31, 2)) rfl rfl
theorem t176_31 : rn 176 31 ls (.int y :: .int x :: r) M = rn 176 32 ls (.int (x &&& y) :: r) M := r_nx (by decide +kernel : decode (mB 176) 31 = .ok (.iand, 1)) rfl rfl
theorem t176_32 : rn 176 32 ls (.int x :: r) M = if x = 0 then rn 176 152 ls r M else if x = 1 then rn 176 185 ls r M else if x = 2 then rn 176 218 ls r M else if x = 3 then rn 176 251 ls r M else if x = 4 then rn 176 274 ls r M else if x = 5 then rn 176 307 ls r M else if x = 6 then rn 176 330 ls r M else if x = 7 then rn 176 353 ls r M else if x = 8 then rn 176 366 ls r M else if x = 9 then rn 176 379 ls r M else if x = 10 then rn 176 392 ls r M else if x = 11 then rn 176 425 ls r M else if x = 12 then rn 176 449 ls r M else if x = 13 then rn 176 482 ls r M else if x = 14 then rn 176 505 ls r M else if x = 15 then rn 176 529 ls r M else if x = 16 then rn 176 552 ls r M else if x = 17 then rn 176 576 ls r M else if x = 18 then rn 176 599 ls r M else if x = 19 then rn 176 612 ls r M else if x = 20 then rn 176 665 ls r M else if x = 21 then rn 176 678 ls r M else if x = 22 then rn 176 691 ls r M else if x = 23 then rn 176 704 ls r M else if x = 24 then rn 176 717 ls r M else if x = 25 then rn 176 740 ls r M else rn 176 763 ls r M := by
  have D := (by decide +kernel : decode (mB 176) 32 = .ok (.tableswitch 731 0 25 #[120, 153, 186, 219, 242, 275, 298, 321, 334, 347, 360, 393, 417, 450, 473, 497, 520, 544, 567, 580, 633, 646, 659, 672, 685, 708], 120))
  by_cases h0 : x = 0
  · rw [h0, r_tab D]; rfl
  by_cases h1 : x = 1
  · rw [h1, r_tab D]; rfl
  by_cases h2 : x = 2
  · rw [h2, r_tab D]; rfl
  by_cases h3 : x = 3
  · rw [h3, r_tab D]; rfl
  by_cases h4 : x = 4
  · rw [h4, r_tab D]; rfl
  by_cases h5 : x = 5
  · rw [h5, r_tab D]; rfl
  by_cases h6 : x = 6
  · rw [h6, r_tab D]; rfl
  by_cases h7 : x = 7
  · rw [h7, r_tab D]; rfl
  by_cases h8 : x = 8
  · rw [h8, r_tab D]; rfl
  by_cases h9 : x = 9
  · rw [h9, r_tab D]; rfl
  by_cases h10 : x = 10
  · rw [h10, r_tab D]; rfl
  by_cases h11 : x = 11
  · rw [h11, r_tab D]; rfl
  by_cases h12 : x = 12
  · rw [h12, r_tab D]; rfl
  by_cases h13 : x = 13
  · rw [h13, r_tab D]; rfl
  by_cases h14 : x = 14
  · rw [h14, r_tab D]; rfl
  by_cases h15 : x = 15
  · rw [h15, r_tab D]; rfl
  by_cases h16 : x = 16
  · rw [h16, r_tab D]; rfl
  by_cases h17 : x = 17
  · rw [h17, r_tab D]; rfl
  by_cases h18 : x = 18
  · rw [h18, r_tab D]; rfl
  by_cases h19 : x = 19
  · rw [h19, r_tab D]; rfl
  by_cases h20 : x = 20
  · rw [h20, r_tab D]; rfl
  by_cases h21 : x = 21
  · rw [h21, r_tab D]; rfl
  by_cases h22 : x = 22
  · rw [h22, r_tab D]; rfl
  by_cases h23 : x = 23
  · rw [h23, r_tab D]; rfl
  by_cases h24 : x = 24
  · rw [h24, r_tab D]; rfl
  by_cases h25 : x = 25
  · rw [h25, r_tab D]; rfl
  rw [r_tabO D (by have e0 : x.toInt ≠ 0 := ti_ne h0; have e1 : x.toInt ≠ 1 := ti_ne h1; have e2 : x.toInt ≠ 2 := ti_ne h2; have e3 : x.toInt ≠ 3 := ti_ne h3; have e4 : x.toInt ≠ 4 := ti_ne h4; have e5 : x.toInt ≠ 5 := ti_ne h5; have e6 : x.toInt ≠ 6 := ti_ne h6; have e7 : x.toInt ≠ 7 := ti_ne h7; have e8 : x.toInt ≠ 8 := ti_ne h8; have e9 : x.toInt ≠ 9 := ti_ne h9; have e10 : x.toInt ≠ 10 := ti_ne h10; have e11 : x.toInt ≠ 11 := ti_ne h11; have e12 : x.toInt ≠ 12 := ti_ne h12; have e13 : x.toInt ≠ 13 := ti_ne h13; have e14 : x.toInt ≠ 14 := ti_ne h14; have e15 : x.toInt ≠ 15 := ti_ne h15; have e16 : x.toInt ≠ 16 := ti_ne h16; have e17 : x.toInt ≠ 17 := ti_ne h17; have e18 : x.toInt ≠ 18 := ti_ne h18; have e19 : x.toInt ≠ 19 := ti_ne h19; have e20 : x.toInt ≠ 20 := ti_ne h20; have e21 : x.toInt ≠ 21 := ti_ne h21; have e22 : x.toInt ≠ 22 := ti_ne h22; have e23 : x.toInt ≠ 23 := ti_ne h23; have e24 : x.toInt ≠ 24 := ti_ne h24; have e25 : x.toInt ≠ 25 := ti_ne h25; omega) (by decide), if_neg h0, if_neg h1, if_neg h2, if_neg h3, if_neg h4, if_neg h5, if_neg h6, if_neg h7, if_neg h8, if_neg h9, if_neg h10, if_neg h11, if_neg h12, if_neg h13, if_neg h14, if_neg h15, if_neg h16, if_neg h17, if_neg h18, if_neg h19, if_neg h20, if_neg h21, if_neg h22, if_neg h23, if_neg h24, if_neg h25]
  rfl
theorem t176_152 : rn 176 152 (a0 :: some (.ref a) :: l) r M = rn 176 153 (a0 :: some (.ref a) :: l) (.ref a :: r) M := r_aload_n (by decide +kernel : decode (mB 176) 152 = .ok (.aload_n 1, 1)) rfl
theorem t176_153 : rn 176 153 (some (.ref a) :: l) r M = rn 176 154 (some (.ref a) :: l) (.ref a :: r) M := r_aload_n (by decide +kernel : decode (mB 176) 153 = .ok (.aload_n 0, 1)) rfl
theorem t176_154 : rn 176 154 (a0 :: a1 :: a2 :: some (.int x) :: l) r M = rn 176 155 (a0 :: a1 :: a2 :: some (.int x) :: l) (.int x :: r) M := r_iload_n (by decide +kernel : decode (mB 176) 154 = .ok (.iload_n 3, 1)) rfl
theorem t176_155 : rn 176 155 ls r M = rn 176 156 ls (.int 1 :: r) M := r_nx (by decide +kernel : decode (mB 176) 155 = .ok (.iconst 1, 1)) rfl rfl
theorem t176_156 : rn 176 156 ls (.int y :: .int x :: r) M = rn 176 157 ls (.int (x + y) :: r) M := r_nx (by decide +kernel : decode (mB 176) 156 = .ok (.iadd, 1)) rfl rfl
theorem t176_157 : rn 176 157 ls (.int x :: .ref a :: r) M = if ((mK M a).1 = 1 ∨ (mK M a).1 = 5) ∧ inR x (mK M a).2 then rn 176 158 ls (.int (mI M a x.toNatClampNeg) :: r) M else none := r_cnd (by decide +kernel : decode (mB 176) 157 = .ok (.iaload, 1)) rfl rfl
theorem t176_158 : rn 176 158 (some (.ref a) :: l) r M = rn 176 159 (some (.ref a) :: l) (.ref a :: r) M := r_aload_n (by decide +kernel : decode (mB 176) 158 = .ok (.aload_n 0, 1)) rfl
theorem t176_159 : rn 176 159 (a0 :: a1 :: a2 :: some (.int x) :: l) r M = rn 176 160 (a0 :: a1 :: a2 :: some (.int x) :: l) (.int x :: r) M := r_iload_n (by decide +kernel : decode (mB 176) 159 = .ok (.iload_n 3, 1)) rfl
theorem t176_160 : rn 176 160 ls r M = rn 176 161 ls (.int 2 :: r) M := r_nx (by decide +kernel : decode (mB 176) 160 = .ok (.iconst 2, 1)) rfl rfl
theorem t176_161 : rn 176 161 ls (.int y :: .int x :: r) M = rn 176 162 ls (.int (x + y) :: r) M := r_nx (by decide +kernel : decode (mB 176) 161 = .ok (.iadd, 1)) rfl rfl
theorem t176_162 : rn 176 162 ls (.int x :: .ref a :: r) M = if ((mK M a).1 = 1 ∨ (mK M a).1 = 5) ∧ inR x (mK M a).2 then rn 176 163 ls (.int (mI M a x.toNatClampNeg) :: r) M else none := r_cnd (by decide +kernel : decode (mB 176) 162 = .ok (.iaload, 1)) rfl rfl
theorem t176_163 : rn 176 163 ls [.int x, .int y, .ref a] M = if mK M a = (10, 0) then cbn (cl 12 [.ref a, .int y, .int x] M) 176 166 ls [] else none := r_callV (kd := 0) (by decide +kernel : decode (mB 176) 163 = .ok (.invokevirtual 13, 3)) (by decide +kernel) ((doV_n np_12).trans rfl)
theorem t176_166 : rn 176 166 (a0 :: a1 :: some (.ref a) :: l) r M = rn 176 167 (a0 :: a1 :: some (.ref a) :: l) (.ref a :: r) M := r_aload_n (by decide +kernel : decode (mB 176) 166 = .ok (.aload_n 2, 1)) rfl
theorem t176_167 : rn 176 167 (some (.ref a) :: l) r M = rn 176 168 (some (.ref a) :: l) (.ref a :: r) M := r_aload_n (by decide +kernel : decode (mB 176) 167 = .ok (.aload_n 0, 1)) rfl
theorem t176_168 : rn 176 168 (a0 :: a1 :: a2 :: some (.int x) :: l) r M = rn 176 169 (a0 :: a1 :: a2 :: some (.int x) :: l) (.int x :: r) M := r_iload_n (by decide +kernel : decode (mB 176) 168 = .ok (.iload_n 3, 1)) rfl
theorem t176_169 : rn 176 169 ls r M = rn 176 170 ls (.int 1 :: r) M := r_nx (by decide +kernel : decode (mB 176) 169 = .ok (.iconst 1, 1)) rfl rfl
theorem t176_170 : rn 176 170 ls (.int y :: .int x :: r) M = rn 176 171 ls (.int (x + y) :: r) M := r_nx (by decide +kernel : decode (mB 176) 170 = .ok (.iadd, 1)) rfl rfl
theorem t176_171 : rn 176 171 ls (.int x :: .ref a :: r) M = if ((mK M a).1 = 1 ∨ (mK M a).1 = 5) ∧ inR x (mK M a).2 then rn 176 172 ls (.int (mI M a x.toNatClampNeg) :: r) M else none := r_cnd (by decide +kernel : decode (mB 176) 171 = .ok (.iaload, 1)) rfl rfl
theorem t176_172 : rn 176 172 (some (.ref a) :: l) r M = rn 176 173 (some (.ref a) :: l) (.ref a :: r) M := r_aload_n (by decide +kernel : decode (mB 176) 172 = .ok (.aload_n 0, 1)) rfl
theorem t176_173 : rn 176 173 (a0 :: a1 :: a2 :: some (.int x) :: l) r M = rn 176 174 (a0 :: a1 :: a2 :: some (.int x) :: l) (.int x :: r) M := r_iload_n (by decide +kernel : decode (mB 176) 173 = .ok (.iload_n 3, 1)) rfl
theorem t176_174 : rn 176 174 ls r M = rn 176 175 ls (.int 2 :: r) M := r_nx (by decide +kernel : decode (mB 176) 174 = .ok (.iconst 2, 1)) rfl rfl
theorem t176_175 : rn 176 175 ls (.int y :: .int x :: r) M = rn 176 176 ls (.int (x + y) :: r) M := r_nx (by decide +kernel : decode (mB 176) 175 = .ok (.iadd, 1)) rfl rfl
theorem t176_176 : rn 176 176 ls (.int x :: .ref a :: r) M = if ((mK M a).1 = 1 ∨ (mK M a).1 = 5) ∧ inR x (mK M a).2 then rn 176 177 ls (.int (mI M a x.toNatClampNeg) :: r) M else none := r_cnd (by decide +kernel : decode (mB 176) 176 = .ok (.iaload, 1)) rfl rfl
theorem t176_177 : rn 176 177 ls [.int x, .int y, .ref a, .int z] M = if mK M a = (19, 0) then cbn (cl 102 [.ref a, .int y, .int x] M) 176 180 ls [.int z] else none := r_callV (kd := 0) (by decide +kernel : decode (mB 176) 177 = .ok (.invokevirtual 17, 3)) (by decide +kernel) ((doV_n np_102).trans rfl)
theorem t176_180 : rn 176 180 ls (.int y :: .int x :: r) M = if x = y then rn 176 763 ls r M else rn 176 183 ls r M := r_if (o := 583) (r := r) (c := x = y) (by decide +kernel : decode (mB 176) 180 = .ok (.if_icmp .eq 583, 3)) rfl (by decide) rfl
theorem t176_183 : rn 176 183 ls r M = rn 176 184 ls (.int 0 :: r) M := r_nx (by decide +kernel : decode (mB 176) 183 = .ok (.iconst 0, 1)) rfl rfl
theorem t176_184 : rn 176 184 ls [.int x] M = if x = 0 ∨ x = 1 then some (some (.int x), M) else none := r_zreturn (by decide +kernel : decode (mB 176) 184 = .ok (.ireturn, 1)) rfl
theorem t176_185 : rn 176 185 (a0 :: some (.ref a) :: l) r M = rn 176 186 (a0 :: some (.ref a) :: l) (.ref a :: r) M := r_aload_n (by decide +kernel : decode (mB 176) 185 = .ok (.aload_n 1, 1)) rfl
theorem t176_186 : rn 176 186 (some (.ref a) :: l) r M = rn 176 187 (some (.ref a) :: l) (.ref a :: r) M := r_aload_n (by decide +kernel : decode (mB 176) 186 = .ok (.aload_n 0, 1)) rfl
theorem t176_187 : rn 176 187 (a0 :: a1 :: a2 :: some (.int x) :: l) r M = rn 176 188 (a0 :: a1 :: a2 :: some (.int x) :: l) (.int x :: r) M := r_iload_n (by decide +kernel : decode (mB 176) 187 = .ok (.iload_n 3, 1)) rfl
theorem t176_188 : rn 176 188 ls r M = rn 176 189 ls (.int 1 :: r) M := r_nx (by decide +kernel : decode (mB 176) 188 = .ok (.iconst 1, 1)) rfl rfl
theorem t176_189 : rn 176 189 ls (.int y :: .int x :: r) M = rn 176 190 ls (.int (x + y) :: r) M := r_nx (by decide +kernel : decode (mB 176) 189 = .ok (.iadd, 1)) rfl rfl
theorem t176_190 : rn 176 190 ls (.int x :: .ref a :: r) M = if ((mK M a).1 = 1 ∨ (mK M a).1 = 5) ∧ inR x (mK M a).2 then rn 176 191 ls (.int (mI M a x.toNatClampNeg) :: r) M else none := r_cnd (by decide +kernel : decode (mB 176) 190 = .ok (.iaload, 1)) rfl rfl
theorem t176_191 : rn 176 191 (some (.ref a) :: l) r M = rn 176 192 (some (.ref a) :: l) (.ref a :: r) M := r_aload_n (by decide +kernel : decode (mB 176) 191 = .ok (.aload_n 0, 1)) rfl
theorem t176_192 : rn 176 192 (a0 :: a1 :: a2 :: some (.int x) :: l) r M = rn 176 193 (a0 :: a1 :: a2 :: some (.int x) :: l) (.int x :: r) M := r_iload_n (by decide +kernel : decode (mB 176) 192 = .ok (.iload_n 3, 1)) rfl
theorem t176_193 : rn 176 193 ls r M = rn 176 194 ls (.int 2 :: r) M := r_nx (by decide +kernel : decode (mB 176) 193 = .ok (.iconst 2, 1)) rfl rfl
theorem t176_194 : rn 176 194 ls (.int y :: .int x :: r) M = rn 176 195 ls (.int (x + y) :: r) M := r_nx (by decide +kernel : decode (mB 176) 194 = .ok (.iadd, 1)) rfl rfl
theorem t176_195 : rn 176 195 ls (.int x :: .ref a :: r) M = if ((mK M a).1 = 1 ∨ (mK M a).1 = 5) ∧ inR x (mK M a).2 then rn 176 196 ls (.int (mI M a x.toNatClampNeg) :: r) M else none := r_cnd (by decide +kernel : decode (mB 176) 195 = .ok (.iaload, 1)) rfl rfl
theorem t176_196 : rn 176 196 ls [.int x, .int y, .ref a] M = if mK M a = (10, 0) then cbn (cl 31 [.ref a, .int y, .int x] M) 176 199 ls [] else none := r_callV (kd := 0) (by decide +kernel : decode (mB 176) 196 = .ok (.invokevirtual 18, 3)) (by decide +kernel) ((doV_n np_31).trans rfl)
theorem t176_199 : rn 176 199 (a0 :: a1 :: some (.ref a) :: l) r M = rn 176 200 (a0 :: a1 :: some (.ref a) :: l) (.ref a :: r) M := r_aload_n (by decide +kernel : decode (mB 176) 199 = .ok (.aload_n 2, 1)) rfl
theorem t176_200 : rn 176 200 (some (.ref a) :: l) r M = rn 176 201 (some (.ref a) :: l) (.ref a :: r) M := r_aload_n (by decide +kernel : decode (mB 176) 200 = .ok (.aload_n 0, 1)) rfl
theorem t176_201 : rn 176 201 (a0 :: a1 :: a2 :: some (.int x) :: l) r M = rn 176 202 (a0 :: a1 :: a2 :: some (.int x) :: l) (.int x :: r) M := r_iload_n (by decide +kernel : decode (mB 176) 201 = .ok (.iload_n 3, 1)) rfl
theorem t176_202 : rn 176 202 ls r M = rn 176 203 ls (.int 1 :: r) M := r_nx (by decide +kernel : decode (mB 176) 202 = .ok (.iconst 1, 1)) rfl rfl
theorem t176_203 : rn 176 203 ls (.int y :: .int x :: r) M = rn 176 204 ls (.int (x + y) :: r) M := r_nx (by decide +kernel : decode (mB 176) 203 = .ok (.iadd, 1)) rfl rfl
theorem t176_204 : rn 176 204 ls (.int x :: .ref a :: r) M = if ((mK M a).1 = 1 ∨ (mK M a).1 = 5) ∧ inR x (mK M a).2 then rn 176 205 ls (.int (mI M a x.toNatClampNeg) :: r) M else none := r_cnd (by decide +kernel : decode (mB 176) 204 = .ok (.iaload, 1)) rfl rfl
theorem t176_205 : rn 176 205 (some (.ref a) :: l) r M = rn 176 206 (some (.ref a) :: l) (.ref a :: r) M := r_aload_n (by decide +kernel : decode (mB 176) 205 = .ok (.aload_n 0, 1)) rfl
theorem t176_206 : rn 176 206 (a0 :: a1 :: a2 :: some (.int x) :: l) r M = rn 176 207 (a0 :: a1 :: a2 :: some (.int x) :: l) (.int x :: r) M := r_iload_n (by decide +kernel : decode (mB 176) 206 = .ok (.iload_n 3, 1)) rfl
theorem t176_207 : rn 176 207 ls r M = rn 176 208 ls (.int 2 :: r) M := r_nx (by decide +kernel : decode (mB 176) 207 = .ok (.iconst 2, 1)) rfl rfl
theorem t176_208 : rn 176 208 ls (.int y :: .int x :: r) M = rn 176 209 ls (.int (x + y) :: r) M := r_nx (by decide +kernel : decode (mB 176) 208 = .ok (.iadd, 1)) rfl rfl
theorem t176_209 : rn 176 209 ls (.int x :: .ref a :: r) M = if ((mK M a).1 = 1 ∨ (mK M a).1 = 5) ∧ inR x (mK M a).2 then rn 176 210 ls (.int (mI M a x.toNatClampNeg) :: r) M else none := r_cnd (by decide +kernel : decode (mB 176) 209 = .ok (.iaload, 1)) rfl rfl
theorem t176_210 : rn 176 210 ls [.int x, .int y, .ref a, .int z] M = if mK M a = (19, 0) then cbn (cl 116 [.ref a, .int y, .int x] M) 176 213 ls [.int z] else none := r_callV (kd := 0) (by decide +kernel : decode (mB 176) 210 = .ok (.invokevirtual 21, 3)) (by decide +kernel) ((doV_n np_116).trans rfl)
theorem t176_213 : rn 176 213 ls (.int y :: .int x :: r) M = if x = y then rn 176 763 ls r M else rn 176 216 ls r M := r_if (o := 550) (r := r) (c := x = y) (by decide +kernel : decode (mB 176) 213 = .ok (.if_icmp .eq 550, 3)) rfl (by decide) rfl
theorem t176_216 : rn 176 216 ls r M = rn 176 217 ls (.int 0 :: r) M := r_nx (by decide +kernel : decode (mB 176) 216 = .ok (.iconst 0, 1)) rfl rfl
theorem t176_217 : rn 176 217 ls [.int x] M = if x = 0 ∨ x = 1 then some (some (.int x), M) else none := r_zreturn (by decide +kernel : decode (mB 176) 217 = .ok (.ireturn, 1)) rfl
theorem t176_218 : rn 176 218 (a0 :: some (.ref a) :: l) r M = rn 176 219 (a0 :: some (.ref a) :: l) (.ref a :: r) M := r_aload_n (by decide +kernel : decode (mB 176) 218 = .ok (.aload_n 1, 1)) rfl
theorem t176_219 : rn 176 219 (some (.ref a) :: l) r M = rn 176 220 (some (.ref a) :: l) (.ref a :: r) M := r_aload_n (by decide +kernel : decode (mB 176) 219 = .ok (.aload_n 0, 1)) rfl
theorem t176_220 : rn 176 220 (a0 :: a1 :: a2 :: some (.int x) :: l) r M = rn 176 221 (a0 :: a1 :: a2 :: some (.int x) :: l) (.int x :: r) M := r_iload_n (by decide +kernel : decode (mB 176) 220 = .ok (.iload_n 3, 1)) rfl
theorem t176_221 : rn 176 221 ls r M = rn 176 222 ls (.int 1 :: r) M := r_nx (by decide +kernel : decode (mB 176) 221 = .ok (.iconst 1, 1)) rfl rfl
theorem t176_222 : rn 176 222 ls (.int y :: .int x :: r) M = rn 176 223 ls (.int (x + y) :: r) M := r_nx (by decide +kernel : decode (mB 176) 222 = .ok (.iadd, 1)) rfl rfl
theorem t176_223 : rn 176 223 ls (.int x :: .ref a :: r) M = if ((mK M a).1 = 1 ∨ (mK M a).1 = 5) ∧ inR x (mK M a).2 then rn 176 224 ls (.int (mI M a x.toNatClampNeg) :: r) M else none := r_cnd (by decide +kernel : decode (mB 176) 223 = .ok (.iaload, 1)) rfl rfl
theorem t176_224 : rn 176 224 (some (.ref a) :: l) r M = rn 176 225 (some (.ref a) :: l) (.ref a :: r) M := r_aload_n (by decide +kernel : decode (mB 176) 224 = .ok (.aload_n 0, 1)) rfl
theorem t176_225 : rn 176 225 (a0 :: a1 :: a2 :: some (.int x) :: l) r M = rn 176 226 (a0 :: a1 :: a2 :: some (.int x) :: l) (.int x :: r) M := r_iload_n (by decide +kernel : decode (mB 176) 225 = .ok (.iload_n 3, 1)) rfl
theorem t176_226 : rn 176 226 ls r M = rn 176 227 ls (.int 2 :: r) M := r_nx (by decide +kernel : decode (mB 176) 226 = .ok (.iconst 2, 1)) rfl rfl
theorem t176_227 : rn 176 227 ls (.int y :: .int x :: r) M = rn 176 228 ls (.int (x + y) :: r) M := r_nx (by decide +kernel : decode (mB 176) 227 = .ok (.iadd, 1)) rfl rfl
theorem t176_228 : rn 176 228 ls (.int x :: .ref a :: r) M = if ((mK M a).1 = 1 ∨ (mK M a).1 = 5) ∧ inR x (mK M a).2 then rn 176 229 ls (.int (mI M a x.toNatClampNeg) :: r) M else none := r_cnd (by decide +kernel : decode (mB 176) 228 = .ok (.iaload, 1)) rfl rfl
theorem t176_229 : rn 176 229 ls [.int x, .int y, .ref a] M = if mK M a = (10, 0) then cbn (cl 32 [.ref a, .int y, .int x] M) 176 232 ls [] else none := r_callV (kd := 0) (by decide +kernel : decode (mB 176) 229 = .ok (.invokevirtual 22, 3)) (by decide +kernel) ((doV_n np_32).trans rfl)
theorem t176_232 : rn 176 232 (a0 :: a1 :: some (.ref a) :: l) r M = rn 176 233 (a0 :: a1 :: some (.ref a) :: l) (.ref a :: r) M := r_aload_n (by decide +kernel : decode (mB 176) 232 = .ok (.aload_n 2, 1)) rfl
theorem t176_233 : rn 176 233 (some (.ref a) :: l) r M = rn 176 234 (some (.ref a) :: l) (.ref a :: r) M := r_aload_n (by decide +kernel : decode (mB 176) 233 = .ok (.aload_n 0, 1)) rfl
theorem t176_234 : rn 176 234 (a0 :: a1 :: a2 :: some (.int x) :: l) r M = rn 176 235 (a0 :: a1 :: a2 :: some (.int x) :: l) (.int x :: r) M := r_iload_n (by decide +kernel : decode (mB 176) 234 = .ok (.iload_n 3, 1)) rfl
theorem t176_235 : rn 176 235 ls r M = rn 176 236 ls (.int 1 :: r) M := r_nx (by decide +kernel : decode (mB 176) 235 = .ok (.iconst 1, 1)) rfl rfl
theorem t176_236 : rn 176 236 ls (.int y :: .int x :: r) M = rn 176 237 ls (.int (x + y) :: r) M := r_nx (by decide +kernel : decode (mB 176) 236 = .ok (.iadd, 1)) rfl rfl
theorem t176_237 : rn 176 237 ls (.int x :: .ref a :: r) M = if ((mK M a).1 = 1 ∨ (mK M a).1 = 5) ∧ inR x (mK M a).2 then rn 176 238 ls (.int (mI M a x.toNatClampNeg) :: r) M else none := r_cnd (by decide +kernel : decode (mB 176) 237 = .ok (.iaload, 1)) rfl rfl
theorem t176_238 : rn 176 238 (some (.ref a) :: l) r M = rn 176 239 (some (.ref a) :: l) (.ref a :: r) M := r_aload_n (by decide +kernel : decode (mB 176) 238 = .ok (.aload_n 0, 1)) rfl
theorem t176_239 : rn 176 239 (a0 :: a1 :: a2 :: some (.int x) :: l) r M = rn 176 240 (a0 :: a1 :: a2 :: some (.int x) :: l) (.int x :: r) M := r_iload_n (by decide +kernel : decode (mB 176) 239 = .ok (.iload_n 3, 1)) rfl
theorem t176_240 : rn 176 240 ls r M = rn 176 241 ls (.int 2 :: r) M := r_nx (by decide +kernel : decode (mB 176) 240 = .ok (.iconst 2, 1)) rfl rfl
theorem t176_241 : rn 176 241 ls (.int y :: .int x :: r) M = rn 176 242 ls (.int (x + y) :: r) M := r_nx (by decide +kernel : decode (mB 176) 241 = .ok (.iadd, 1)) rfl rfl
theorem t176_242 : rn 176 242 ls (.int x :: .ref a :: r) M = if ((mK M a).1 = 1 ∨ (mK M a).1 = 5) ∧ inR x (mK M a).2 then rn 176 243 ls (.int (mI M a x.toNatClampNeg) :: r) M else none := r_cnd (by decide +kernel : decode (mB 176) 242 = .ok (.iaload, 1)) rfl rfl
theorem t176_243 : rn 176 243 ls [.int x, .int y, .ref a, .int z] M = if mK M a = (19, 0) then cbn (cl 117 [.ref a, .int y, .int x] M) 176 246 ls [.int z] else none := r_callV (kd := 0) (by decide +kernel : decode (mB 176) 243 = .ok (.invokevirtual 25, 3)) (by decide +kernel) ((doV_n np_117).trans rfl)
theorem t176_246 : rn 176 246 ls (.int y :: .int x :: r) M = if x = y then rn 176 763 ls r M else rn 176 249 ls r M := r_if (o := 517) (r := r) (c := x = y) (by decide +kernel : decode (mB 176) 246 = .ok (.if_icmp .eq 517, 3)) rfl (by decide) rfl
theorem t176_249 : rn 176 249 ls r M = rn 176 250 ls (.int 0 :: r) M := r_nx (by decide +kernel : decode (mB 176) 249 = .ok (.iconst 0, 1)) rfl rfl
theorem t176_250 : rn 176 250 ls [.int x] M = if x = 0 ∨ x = 1 then some (some (.int x), M) else none := r_zreturn (by decide +kernel : decode (mB 176) 250 = .ok (.ireturn, 1)) rfl
theorem t176_251 : rn 176 251 (a0 :: some (.ref a) :: l) r M = rn 176 252 (a0 :: some (.ref a) :: l) (.ref a :: r) M := r_aload_n (by decide +kernel : decode (mB 176) 251 = .ok (.aload_n 1, 1)) rfl
theorem t176_252 : rn 176 252 (some (.ref a) :: l) r M = rn 176 253 (some (.ref a) :: l) (.ref a :: r) M := r_aload_n (by decide +kernel : decode (mB 176) 252 = .ok (.aload_n 0, 1)) rfl
theorem t176_253 : rn 176 253 (a0 :: a1 :: a2 :: some (.int x) :: l) r M = rn 176 254 (a0 :: a1 :: a2 :: some (.int x) :: l) (.int x :: r) M := r_iload_n (by decide +kernel : decode (mB 176) 253 = .ok (.iload_n 3, 1)) rfl
theorem t176_254 : rn 176 254 ls r M = rn 176 255 ls (.int 1 :: r) M := r_nx (by decide +kernel : decode (mB 176) 254 = .ok (.iconst 1, 1)) rfl rfl
theorem t176_255 : rn 176 255 ls (.int y :: .int x :: r) M = rn 176 256 ls (.int (x + y) :: r) M := r_nx (by decide +kernel : decode (mB 176) 255 = .ok (.iadd, 1)) rfl rfl
theorem t176_256 : rn 176 256 ls (.int x :: .ref a :: r) M = if ((mK M a).1 = 1 ∨ (mK M a).1 = 5) ∧ inR x (mK M a).2 then rn 176 257 ls (.int (mI M a x.toNatClampNeg) :: r) M else none := r_cnd (by decide +kernel : decode (mB 176) 256 = .ok (.iaload, 1)) rfl rfl
theorem t176_257 : rn 176 257 ls [.int x, .ref a] M = if mK M a = (10, 0) then cbn (cl 33 [.ref a, .int x] M) 176 260 ls [] else none := r_callV (kd := 0) (by decide +kernel : decode (mB 176) 257 = .ok (.invokevirtual 26, 3)) (by decide +kernel) ((doV_n np_33).trans rfl)
theorem t176_260 : rn 176 260 (a0 :: a1 :: some (.ref a) :: l) r M = rn 176 261 (a0 :: a1 :: some (.ref a) :: l) (.ref a :: r) M := r_aload_n (by decide +kernel : decode (mB 176) 260 = .ok (.aload_n 2, 1)) rfl
theorem t176_261 : rn 176 261 (some (.ref a) :: l) r M = rn 176 262 (some (.ref a) :: l) (.ref a :: r) M := r_aload_n (by decide +kernel : decode (mB 176) 261 = .ok (.aload_n 0, 1)) rfl
theorem t176_262 : rn 176 262 (a0 :: a1 :: a2 :: some (.int x) :: l) r M = rn 176 263 (a0 :: a1 :: a2 :: some (.int x) :: l) (.int x :: r) M := r_iload_n (by decide +kernel : decode (mB 176) 262 = .ok (.iload_n 3, 1)) rfl
theorem t176_263 : rn 176 263 ls r M = rn 176 264 ls (.int 1 :: r) M := r_nx (by decide +kernel : decode (mB 176) 263 = .ok (.iconst 1, 1)) rfl rfl
theorem t176_264 : rn 176 264 ls (.int y :: .int x :: r) M = rn 176 265 ls (.int (x + y) :: r) M := r_nx (by decide +kernel : decode (mB 176) 264 = .ok (.iadd, 1)) rfl rfl
theorem t176_265 : rn 176 265 ls (.int x :: .ref a :: r) M = if ((mK M a).1 = 1 ∨ (mK M a).1 = 5) ∧ inR x (mK M a).2 then rn 176 266 ls (.int (mI M a x.toNatClampNeg) :: r) M else none := r_cnd (by decide +kernel : decode (mB 176) 265 = .ok (.iaload, 1)) rfl rfl
theorem t176_266 : rn 176 266 ls [.int x, .ref a, .int y] M = if mK M a = (19, 0) then cbn (cl 118 [.ref a, .int x] M) 176 269 ls [.int y] else none := r_callV (kd := 0) (by decide +kernel : decode (mB 176) 266 = .ok (.invokevirtual 30, 3)) (by decide +kernel) ((doV_n np_118).trans rfl)
theorem t176_269 : rn 176 269 ls (.int y :: .int x :: r) M = if x = y then rn 176 763 ls r M else rn 176 272 ls r M := r_if (o := 494) (r := r) (c := x = y) (by decide +kernel : decode (mB 176) 269 = .ok (.if_icmp .eq 494, 3)) rfl (by decide) rfl
theorem t176_272 : rn 176 272 ls r M = rn 176 273 ls (.int 0 :: r) M := r_nx (by decide +kernel : decode (mB 176) 272 = .ok (.iconst 0, 1)) rfl rfl
theorem t176_273 : rn 176 273 ls [.int x] M = if x = 0 ∨ x = 1 then some (some (.int x), M) else none := r_zreturn (by decide +kernel : decode (mB 176) 273 = .ok (.ireturn, 1)) rfl
theorem t176_274 : rn 176 274 (a0 :: some (.ref a) :: l) r M = rn 176 275 (a0 :: some (.ref a) :: l) (.ref a :: r) M := r_aload_n (by decide +kernel : decode (mB 176) 274 = .ok (.aload_n 1, 1)) rfl
theorem t176_275 : rn 176 275 (some (.ref a) :: l) r M = rn 176 276 (some (.ref a) :: l) (.ref a :: r) M := r_aload_n (by decide +kernel : decode (mB 176) 275 = .ok (.aload_n 0, 1)) rfl
theorem t176_276 : rn 176 276 (a0 :: a1 :: a2 :: some (.int x) :: l) r M = rn 176 277 (a0 :: a1 :: a2 :: some (.int x) :: l) (.int x :: r) M := r_iload_n (by decide +kernel : decode (mB 176) 276 = .ok (.iload_n 3, 1)) rfl
theorem t176_277 : rn 176 277 ls r M = rn 176 278 ls (.int 1 :: r) M := r_nx (by decide +kernel : decode (mB 176) 277 = .ok (.iconst 1, 1)) rfl rfl
theorem t176_278 : rn 176 278 ls (.int y :: .int x :: r) M = rn 176 279 ls (.int (x + y) :: r) M := r_nx (by decide +kernel : decode (mB 176) 278 = .ok (.iadd, 1)) rfl rfl
theorem t176_279 : rn 176 279 ls (.int x :: .ref a :: r) M = if ((mK M a).1 = 1 ∨ (mK M a).1 = 5) ∧ inR x (mK M a).2 then rn 176 280 ls (.int (mI M a x.toNatClampNeg) :: r) M else none := r_cnd (by decide +kernel : decode (mB 176) 279 = .ok (.iaload, 1)) rfl rfl
theorem t176_280 : rn 176 280 (some (.ref a) :: l) r M = rn 176 281 (some (.ref a) :: l) (.ref a :: r) M := r_aload_n (by decide +kernel : decode (mB 176) 280 = .ok (.aload_n 0, 1)) rfl
theorem t176_281 : rn 176 281 (a0 :: a1 :: a2 :: some (.int x) :: l) r M = rn 176 282 (a0 :: a1 :: a2 :: some (.int x) :: l) (.int x :: r) M := r_iload_n (by decide +kernel : decode (mB 176) 281 = .ok (.iload_n 3, 1)) rfl
theorem t176_282 : rn 176 282 ls r M = rn 176 283 ls (.int 2 :: r) M := r_nx (by decide +kernel : decode (mB 176) 282 = .ok (.iconst 2, 1)) rfl rfl
theorem t176_283 : rn 176 283 ls (.int y :: .int x :: r) M = rn 176 284 ls (.int (x + y) :: r) M := r_nx (by decide +kernel : decode (mB 176) 283 = .ok (.iadd, 1)) rfl rfl
theorem t176_284 : rn 176 284 ls (.int x :: .ref a :: r) M = if ((mK M a).1 = 1 ∨ (mK M a).1 = 5) ∧ inR x (mK M a).2 then rn 176 285 ls (.int (mI M a x.toNatClampNeg) :: r) M else none := r_cnd (by decide +kernel : decode (mB 176) 284 = .ok (.iaload, 1)) rfl rfl
theorem t176_285 : rn 176 285 ls [.int x, .int y, .ref a] M = if mK M a = (10, 0) then cbn (cl 34 [.ref a, .int y, .int x] M) 176 288 ls [] else none := r_callV (kd := 0) (by decide +kernel : decode (mB 176) 285 = .ok (.invokevirtual 31, 3)) (by decide +kernel) ((doV_n np_34).trans rfl)
theorem t176_288 : rn 176 288 (a0 :: a1 :: some (.ref a) :: l) r M = rn 176 289 (a0 :: a1 :: some (.ref a) :: l) (.ref a :: r) M := r_aload_n (by decide +kernel : decode (mB 176) 288 = .ok (.aload_n 2, 1)) rfl
theorem t176_289 : rn 176 289 (some (.ref a) :: l) r M = rn 176 290 (some (.ref a) :: l) (.ref a :: r) M := r_aload_n (by decide +kernel : decode (mB 176) 289 = .ok (.aload_n 0, 1)) rfl
theorem t176_290 : rn 176 290 (a0 :: a1 :: a2 :: some (.int x) :: l) r M = rn 176 291 (a0 :: a1 :: a2 :: some (.int x) :: l) (.int x :: r) M := r_iload_n (by decide +kernel : decode (mB 176) 290 = .ok (.iload_n 3, 1)) rfl
theorem t176_291 : rn 176 291 ls r M = rn 176 292 ls (.int 1 :: r) M := r_nx (by decide +kernel : decode (mB 176) 291 = .ok (.iconst 1, 1)) rfl rfl
theorem t176_292 : rn 176 292 ls (.int y :: .int x :: r) M = rn 176 293 ls (.int (x + y) :: r) M := r_nx (by decide +kernel : decode (mB 176) 292 = .ok (.iadd, 1)) rfl rfl
theorem t176_293 : rn 176 293 ls (.int x :: .ref a :: r) M = if ((mK M a).1 = 1 ∨ (mK M a).1 = 5) ∧ inR x (mK M a).2 then rn 176 294 ls (.int (mI M a x.toNatClampNeg) :: r) M else none := r_cnd (by decide +kernel : decode (mB 176) 293 = .ok (.iaload, 1)) rfl rfl
theorem t176_294 : rn 176 294 (some (.ref a) :: l) r M = rn 176 295 (some (.ref a) :: l) (.ref a :: r) M := r_aload_n (by decide +kernel : decode (mB 176) 294 = .ok (.aload_n 0, 1)) rfl
theorem t176_295 : rn 176 295 (a0 :: a1 :: a2 :: some (.int x) :: l) r M = rn 176 296 (a0 :: a1 :: a2 :: some (.int x) :: l) (.int x :: r) M := r_iload_n (by decide +kernel : decode (mB 176) 295 = .ok (.iload_n 3, 1)) rfl
theorem t176_296 : rn 176 296 ls r M = rn 176 297 ls (.int 2 :: r) M := r_nx (by decide +kernel : decode (mB 176) 296 = .ok (.iconst 2, 1)) rfl rfl
theorem t176_297 : rn 176 297 ls (.int y :: .int x :: r) M = rn 176 298 ls (.int (x + y) :: r) M := r_nx (by decide +kernel : decode (mB 176) 297 = .ok (.iadd, 1)) rfl rfl
theorem t176_298 : rn 176 298 ls (.int x :: .ref a :: r) M = if ((mK M a).1 = 1 ∨ (mK M a).1 = 5) ∧ inR x (mK M a).2 then rn 176 299 ls (.int (mI M a x.toNatClampNeg) :: r) M else none := r_cnd (by decide +kernel : decode (mB 176) 298 = .ok (.iaload, 1)) rfl rfl
theorem t176_299 : rn 176 299 ls [.int x, .int y, .ref a, .int z] M = if mK M a = (19, 0) then cbn (cl 119 [.ref a, .int y, .int x] M) 176 302 ls [.int z] else none := r_callV (kd := 0) (by decide +kernel : decode (mB 176) 299 = .ok (.invokevirtual 34, 3)) (by decide +kernel) ((doV_n np_119).trans rfl)
theorem t176_302 : rn 176 302 ls (.int y :: .int x :: r) M = if x = y then rn 176 763 ls r M else rn 176 305 ls r M := r_if (o := 461) (r := r) (c := x = y) (by decide +kernel : decode (mB 176) 302 = .ok (.if_icmp .eq 461, 3)) rfl (by decide) rfl
theorem t176_305 : rn 176 305 ls r M = rn 176 306 ls (.int 0 :: r) M := r_nx (by decide +kernel : decode (mB 176) 305 = .ok (.iconst 0, 1)) rfl rfl
theorem t176_306 : rn 176 306 ls [.int x] M = if x = 0 ∨ x = 1 then some (some (.int x), M) else none := r_zreturn (by decide +kernel : decode (mB 176) 306 = .ok (.ireturn, 1)) rfl
theorem t176_307 : rn 176 307 (a0 :: some (.ref a) :: l) r M = rn 176 308 (a0 :: some (.ref a) :: l) (.ref a :: r) M := r_aload_n (by decide +kernel : decode (mB 176) 307 = .ok (.aload_n 1, 1)) rfl
theorem t176_308 : rn 176 308 (some (.ref a) :: l) r M = rn 176 309 (some (.ref a) :: l) (.ref a :: r) M := r_aload_n (by decide +kernel : decode (mB 176) 308 = .ok (.aload_n 0, 1)) rfl
theorem t176_309 : rn 176 309 (a0 :: a1 :: a2 :: some (.int x) :: l) r M = rn 176 310 (a0 :: a1 :: a2 :: some (.int x) :: l) (.int x :: r) M := r_iload_n (by decide +kernel : decode (mB 176) 309 = .ok (.iload_n 3, 1)) rfl
theorem t176_310 : rn 176 310 ls r M = rn 176 311 ls (.int 1 :: r) M := r_nx (by decide +kernel : decode (mB 176) 310 = .ok (.iconst 1, 1)) rfl rfl
theorem t176_311 : rn 176 311 ls (.int y :: .int x :: r) M = rn 176 312 ls (.int (x + y) :: r) M := r_nx (by decide +kernel : decode (mB 176) 311 = .ok (.iadd, 1)) rfl rfl
theorem t176_312 : rn 176 312 ls (.int x :: .ref a :: r) M = if ((mK M a).1 = 1 ∨ (mK M a).1 = 5) ∧ inR x (mK M a).2 then rn 176 313 ls (.int (mI M a x.toNatClampNeg) :: r) M else none := r_cnd (by decide +kernel : decode (mB 176) 312 = .ok (.iaload, 1)) rfl rfl
theorem t176_313 : rn 176 313 ls [.int x, .ref a] M = if mK M a = (10, 0) then cbn (cl 38 [.ref a, .int x] M) 176 316 ls [] else none := r_callV (kd := 0) (by decide +kernel : decode (mB 176) 313 = .ok (.invokevirtual 35, 3)) (by decide +kernel) ((doV_n np_38).trans rfl)
theorem t176_316 : rn 176 316 (a0 :: a1 :: some (.ref a) :: l) r M = rn 176 317 (a0 :: a1 :: some (.ref a) :: l) (.ref a :: r) M := r_aload_n (by decide +kernel : decode (mB 176) 316 = .ok (.aload_n 2, 1)) rfl
theorem t176_317 : rn 176 317 (some (.ref a) :: l) r M = rn 176 318 (some (.ref a) :: l) (.ref a :: r) M := r_aload_n (by decide +kernel : decode (mB 176) 317 = .ok (.aload_n 0, 1)) rfl
theorem t176_318 : rn 176 318 (a0 :: a1 :: a2 :: some (.int x) :: l) r M = rn 176 319 (a0 :: a1 :: a2 :: some (.int x) :: l) (.int x :: r) M := r_iload_n (by decide +kernel : decode (mB 176) 318 = .ok (.iload_n 3, 1)) rfl
theorem t176_319 : rn 176 319 ls r M = rn 176 320 ls (.int 1 :: r) M := r_nx (by decide +kernel : decode (mB 176) 319 = .ok (.iconst 1, 1)) rfl rfl
theorem t176_320 : rn 176 320 ls (.int y :: .int x :: r) M = rn 176 321 ls (.int (x + y) :: r) M := r_nx (by decide +kernel : decode (mB 176) 320 = .ok (.iadd, 1)) rfl rfl
theorem t176_321 : rn 176 321 ls (.int x :: .ref a :: r) M = if ((mK M a).1 = 1 ∨ (mK M a).1 = 5) ∧ inR x (mK M a).2 then rn 176 322 ls (.int (mI M a x.toNatClampNeg) :: r) M else none := r_cnd (by decide +kernel : decode (mB 176) 321 = .ok (.iaload, 1)) rfl rfl
theorem t176_322 : rn 176 322 ls [.int x, .ref a, .int y] M = if mK M a = (19, 0) then cbn (cl 126 [.ref a, .int x] M) 176 325 ls [.int y] else none := r_callV (kd := 0) (by decide +kernel : decode (mB 176) 322 = .ok (.invokevirtual 38, 3)) (by decide +kernel) ((doV_n np_126).trans rfl)
theorem t176_325 : rn 176 325 ls (.int y :: .int x :: r) M = if x = y then rn 176 763 ls r M else rn 176 328 ls r M := r_if (o := 438) (r := r) (c := x = y) (by decide +kernel : decode (mB 176) 325 = .ok (.if_icmp .eq 438, 3)) rfl (by decide) rfl
theorem t176_328 : rn 176 328 ls r M = rn 176 329 ls (.int 0 :: r) M := r_nx (by decide +kernel : decode (mB 176) 328 = .ok (.iconst 0, 1)) rfl rfl
theorem t176_329 : rn 176 329 ls [.int x] M = if x = 0 ∨ x = 1 then some (some (.int x), M) else none := r_zreturn (by decide +kernel : decode (mB 176) 329 = .ok (.ireturn, 1)) rfl
theorem t176_330 : rn 176 330 (a0 :: some (.ref a) :: l) r M = rn 176 331 (a0 :: some (.ref a) :: l) (.ref a :: r) M := r_aload_n (by decide +kernel : decode (mB 176) 330 = .ok (.aload_n 1, 1)) rfl
theorem t176_331 : rn 176 331 (some (.ref a) :: l) r M = rn 176 332 (some (.ref a) :: l) (.ref a :: r) M := r_aload_n (by decide +kernel : decode (mB 176) 331 = .ok (.aload_n 0, 1)) rfl
theorem t176_332 : rn 176 332 (a0 :: a1 :: a2 :: some (.int x) :: l) r M = rn 176 333 (a0 :: a1 :: a2 :: some (.int x) :: l) (.int x :: r) M := r_iload_n (by decide +kernel : decode (mB 176) 332 = .ok (.iload_n 3, 1)) rfl
theorem t176_333 : rn 176 333 ls r M = rn 176 334 ls (.int 1 :: r) M := r_nx (by decide +kernel : decode (mB 176) 333 = .ok (.iconst 1, 1)) rfl rfl
theorem t176_334 : rn 176 334 ls (.int y :: .int x :: r) M = rn 176 335 ls (.int (x + y) :: r) M := r_nx (by decide +kernel : decode (mB 176) 334 = .ok (.iadd, 1)) rfl rfl
theorem t176_335 : rn 176 335 ls (.int x :: .ref a :: r) M = if ((mK M a).1 = 1 ∨ (mK M a).1 = 5) ∧ inR x (mK M a).2 then rn 176 336 ls (.int (mI M a x.toNatClampNeg) :: r) M else none := r_cnd (by decide +kernel : decode (mB 176) 335 = .ok (.iaload, 1)) rfl rfl
theorem t176_336 : rn 176 336 ls [.int x, .ref a] M = if mK M a = (10, 0) then cbn (cl 43 [.ref a, .int x] M) 176 339 ls [] else none := r_callV (kd := 0) (by decide +kernel : decode (mB 176) 336 = .ok (.invokevirtual 39, 3)) (by decide +kernel) ((doV_n np_43).trans rfl)
theorem t176_339 : rn 176 339 (a0 :: a1 :: some (.ref a) :: l) r M = rn 176 340 (a0 :: a1 :: some (.ref a) :: l) (.ref a :: r) M := r_aload_n (by decide +kernel : decode (mB 176) 339 = .ok (.aload_n 2, 1)) rfl
theorem t176_340 : rn 176 340 (some (.ref a) :: l) r M = rn 176 341 (some (.ref a) :: l) (.ref a :: r) M := r_aload_n (by decide +kernel : decode (mB 176) 340 = .ok (.aload_n 0, 1)) rfl
theorem t176_341 : rn 176 341 (a0 :: a1 :: a2 :: some (.int x) :: l) r M = rn 176 342 (a0 :: a1 :: a2 :: some (.int x) :: l) (.int x :: r) M := r_iload_n (by decide +kernel : decode (mB 176) 341 = .ok (.iload_n 3, 1)) rfl
theorem t176_342 : rn 176 342 ls r M = rn 176 343 ls (.int 1 :: r) M := r_nx (by decide +kernel : decode (mB 176) 342 = .ok (.iconst 1, 1)) rfl rfl
theorem t176_343 : rn 176 343 ls (.int y :: .int x :: r) M = rn 176 344 ls (.int (x + y) :: r) M := r_nx (by decide +kernel : decode (mB 176) 343 = .ok (.iadd, 1)) rfl rfl
theorem t176_344 : rn 176 344 ls (.int x :: .ref a :: r) M = if ((mK M a).1 = 1 ∨ (mK M a).1 = 5) ∧ inR x (mK M a).2 then rn 176 345 ls (.int (mI M a x.toNatClampNeg) :: r) M else none := r_cnd (by decide +kernel : decode (mB 176) 344 = .ok (.iaload, 1)) rfl rfl
theorem t176_345 : rn 176 345 ls [.int x, .ref a, .int y] M = if mK M a = (19, 0) then cbn (cl 132 [.ref a, .int x] M) 176 348 ls [.int y] else none := r_callV (kd := 0) (by decide +kernel : decode (mB 176) 345 = .ok (.invokevirtual 42, 3)) (by decide +kernel) ((doV_n np_132).trans rfl)
theorem t176_348 : rn 176 348 ls (.int y :: .int x :: r) M = if x = y then rn 176 763 ls r M else rn 176 351 ls r M := r_if (o := 415) (r := r) (c := x = y) (by decide +kernel : decode (mB 176) 348 = .ok (.if_icmp .eq 415, 3)) rfl (by decide) rfl
theorem t176_351 : rn 176 351 ls r M = rn 176 352 ls (.int 0 :: r) M := r_nx (by decide +kernel : decode (mB 176) 351 = .ok (.iconst 0, 1)) rfl rfl
theorem t176_352 : rn 176 352 ls [.int x] M = if x = 0 ∨ x = 1 then some (some (.int x), M) else none := r_zreturn (by decide +kernel : decode (mB 176) 352 = .ok (.ireturn, 1)) rfl
theorem t176_353 : rn 176 353 (a0 :: some (.ref a) :: l) r M = rn 176 354 (a0 :: some (.ref a) :: l) (.ref a :: r) M := r_aload_n (by decide +kernel : decode (mB 176) 353 = .ok (.aload_n 1, 1)) rfl
theorem t176_354 : rn 176 354 ls [.ref a] M = if mK M a = (10, 0) then cbn (cl 45 [.ref a] M) 176 357 ls [] else none := r_callV (kd := 0) (by decide +kernel : decode (mB 176) 354 = .ok (.invokevirtual 43, 3)) (by decide +kernel) ((doV_n np_45).trans rfl)
theorem t176_357 : rn 176 357 (a0 :: a1 :: some (.ref a) :: l) r M = rn 176 358 (a0 :: a1 :: some (.ref a) :: l) (.ref a :: r) M := r_aload_n (by decide +kernel : decode (mB 176) 357 = .ok (.aload_n 2, 1)) rfl
theorem t176_358 : rn 176 358 ls [.ref a, .int x] M = if mK M a = (19, 0) then cbn (cl 133 [.ref a] M) 176 361 ls [.int x] else none := r_callV (kd := 0) (by decide +kernel : decode (mB 176) 358 = .ok (.invokevirtual 47, 3)) (by decide +kernel) ((doV_n np_133).trans rfl)
theorem t176_361 : rn 176 361 ls (.int y :: .int x :: r) M = if x = y then rn 176 763 ls r M else rn 176 364 ls r M := r_if (o := 402) (r := r) (c := x = y) (by decide +kernel : decode (mB 176) 361 = .ok (.if_icmp .eq 402, 3)) rfl (by decide) rfl
theorem t176_364 : rn 176 364 ls r M = rn 176 365 ls (.int 0 :: r) M := r_nx (by decide +kernel : decode (mB 176) 364 = .ok (.iconst 0, 1)) rfl rfl
theorem t176_365 : rn 176 365 ls [.int x] M = if x = 0 ∨ x = 1 then some (some (.int x), M) else none := r_zreturn (by decide +kernel : decode (mB 176) 365 = .ok (.ireturn, 1)) rfl
theorem t176_366 : rn 176 366 (a0 :: some (.ref a) :: l) r M = rn 176 367 (a0 :: some (.ref a) :: l) (.ref a :: r) M := r_aload_n (by decide +kernel : decode (mB 176) 366 = .ok (.aload_n 1, 1)) rfl
theorem t176_367 : rn 176 367 ls [.ref a] M = if mK M a = (10, 0) then cbn (cl 46 [.ref a] M) 176 370 ls [] else none := r_callV (kd := 0) (by decide +kernel : decode (mB 176) 367 = .ok (.invokevirtual 48, 3)) (by decide +kernel) ((doV_n np_46).trans rfl)
theorem t176_370 : rn 176 370 (a0 :: a1 :: some (.ref a) :: l) r M = rn 176 371 (a0 :: a1 :: some (.ref a) :: l) (.ref a :: r) M := r_aload_n (by decide +kernel : decode (mB 176) 370 = .ok (.aload_n 2, 1)) rfl
theorem t176_371 : rn 176 371 ls [.ref a, .int x] M = if mK M a = (19, 0) then cbn (cl 135 [.ref a] M) 176 374 ls [.int x] else none := r_callV (kd := 0) (by decide +kernel : decode (mB 176) 371 = .ok (.invokevirtual 51, 3)) (by decide +kernel) ((doV_n np_135).trans rfl)
theorem t176_374 : rn 176 374 ls (.int y :: .int x :: r) M = if x = y then rn 176 763 ls r M else rn 176 377 ls r M := r_if (o := 389) (r := r) (c := x = y) (by decide +kernel : decode (mB 176) 374 = .ok (.if_icmp .eq 389, 3)) rfl (by decide) rfl
theorem t176_377 : rn 176 377 ls r M = rn 176 378 ls (.int 0 :: r) M := r_nx (by decide +kernel : decode (mB 176) 377 = .ok (.iconst 0, 1)) rfl rfl
theorem t176_378 : rn 176 378 ls [.int x] M = if x = 0 ∨ x = 1 then some (some (.int x), M) else none := r_zreturn (by decide +kernel : decode (mB 176) 378 = .ok (.ireturn, 1)) rfl
theorem t176_379 : rn 176 379 (a0 :: some (.ref a) :: l) r M = rn 176 380 (a0 :: some (.ref a) :: l) (.ref a :: r) M := r_aload_n (by decide +kernel : decode (mB 176) 379 = .ok (.aload_n 1, 1)) rfl
theorem t176_380 : rn 176 380 ls [.ref a] M = if mK M a = (10, 0) then cbn (cl 57 [.ref a] M) 176 383 ls [] else none := r_callV (kd := 0) (by decide +kernel : decode (mB 176) 380 = .ok (.invokevirtual 52, 3)) (by decide +kernel) ((doV_n np_57).trans rfl)
theorem t176_383 : rn 176 383 (a0 :: a1 :: some (.ref a) :: l) r M = rn 176 384 (a0 :: a1 :: some (.ref a) :: l) (.ref a :: r) M := r_aload_n (by decide +kernel : decode (mB 176) 383 = .ok (.aload_n 2, 1)) rfl
theorem t176_384 : rn 176 384 ls [.ref a, .int x] M = if mK M a = (19, 0) then cbn (cl 144 [.ref a] M) 176 387 ls [.int x] else none := r_callV (kd := 0) (by decide +kernel : decode (mB 176) 384 = .ok (.invokevirtual 55, 3)) (by decide +kernel) ((doV_n np_144).trans rfl)
theorem t176_387 : rn 176 387 ls (.int y :: .int x :: r) M = if x = y then rn 176 763 ls r M else rn 176 390 ls r M := r_if (o := 376) (r := r) (c := x = y) (by decide +kernel : decode (mB 176) 387 = .ok (.if_icmp .eq 376, 3)) rfl (by decide) rfl
theorem t176_390 : rn 176 390 ls r M = rn 176 391 ls (.int 0 :: r) M := r_nx (by decide +kernel : decode (mB 176) 390 = .ok (.iconst 0, 1)) rfl rfl
theorem t176_391 : rn 176 391 ls [.int x] M = if x = 0 ∨ x = 1 then some (some (.int x), M) else none := r_zreturn (by decide +kernel : decode (mB 176) 391 = .ok (.ireturn, 1)) rfl
theorem t176_392 : rn 176 392 (a0 :: some (.ref a) :: l) r M = rn 176 393 (a0 :: some (.ref a) :: l) (.ref a :: r) M := r_aload_n (by decide +kernel : decode (mB 176) 392 = .ok (.aload_n 1, 1)) rfl
theorem t176_393 : rn 176 393 (some (.ref a) :: l) r M = rn 176 394 (some (.ref a) :: l) (.ref a :: r) M := r_aload_n (by decide +kernel : decode (mB 176) 393 = .ok (.aload_n 0, 1)) rfl
theorem t176_394 : rn 176 394 (a0 :: a1 :: a2 :: some (.int x) :: l) r M = rn 176 395 (a0 :: a1 :: a2 :: some (.int x) :: l) (.int x :: r) M := r_iload_n (by decide +kernel : decode (mB 176) 394 = .ok (.iload_n 3, 1)) rfl
theorem t176_395 : rn 176 395 ls r M = rn 176 396 ls (.int 1 :: r) M := r_nx (by decide +kernel : decode (mB 176) 395 = .ok (.iconst 1, 1)) rfl rfl
theorem t176_396 : rn 176 396 ls (.int y :: .int x :: r) M = rn 176 397 ls (.int (x + y) :: r) M := r_nx (by decide +kernel : decode (mB 176) 396 = .ok (.iadd, 1)) rfl rfl
theorem t176_397 : rn 176 397 ls (.int x :: .ref a :: r) M = if ((mK M a).1 = 1 ∨ (mK M a).1 = 5) ∧ inR x (mK M a).2 then rn 176 398 ls (.int (mI M a x.toNatClampNeg) :: r) M else none := r_cnd (by decide +kernel : decode (mB 176) 397 = .ok (.iaload, 1)) rfl rfl
theorem t176_398 : rn 176 398 (some (.ref a) :: l) r M = rn 176 399 (some (.ref a) :: l) (.ref a :: r) M := r_aload_n (by decide +kernel : decode (mB 176) 398 = .ok (.aload_n 0, 1)) rfl
theorem t176_399 : rn 176 399 (a0 :: a1 :: a2 :: some (.int x) :: l) r M = rn 176 400 (a0 :: a1 :: a2 :: some (.int x) :: l) (.int x :: r) M := r_iload_n (by decide +kernel : decode (mB 176) 399 = .ok (.iload_n 3, 1)) rfl
theorem t176_400 : rn 176 400 ls r M = rn 176 401 ls (.int 2 :: r) M := r_nx (by decide +kernel : decode (mB 176) 400 = .ok (.iconst 2, 1)) rfl rfl
theorem t176_401 : rn 176 401 ls (.int y :: .int x :: r) M = rn 176 402 ls (.int (x + y) :: r) M := r_nx (by decide +kernel : decode (mB 176) 401 = .ok (.iadd, 1)) rfl rfl
theorem t176_402 : rn 176 402 ls (.int x :: .ref a :: r) M = if ((mK M a).1 = 1 ∨ (mK M a).1 = 5) ∧ inR x (mK M a).2 then rn 176 403 ls (.int (mI M a x.toNatClampNeg) :: r) M else none := r_cnd (by decide +kernel : decode (mB 176) 402 = .ok (.iaload, 1)) rfl rfl
theorem t176_403 : rn 176 403 ls [.int x, .int y, .ref a] M = if mK M a = (10, 0) then cbn (cl 59 [.ref a, .int y, .int x] M) 176 406 ls [] else none := r_callV (kd := 0) (by decide +kernel : decode (mB 176) 403 = .ok (.invokevirtual 56, 3)) (by decide +kernel) ((doV_n np_59).trans rfl)
theorem t176_406 : rn 176 406 (a0 :: a1 :: some (.ref a) :: l) r M = rn 176 407 (a0 :: a1 :: some (.ref a) :: l) (.ref a :: r) M := r_aload_n (by decide +kernel : decode (mB 176) 406 = .ok (.aload_n 2, 1)) rfl
theorem t176_407 : rn 176 407 (some (.ref a) :: l) r M = rn 176 408 (some (.ref a) :: l) (.ref a :: r) M := r_aload_n (by decide +kernel : decode (mB 176) 407 = .ok (.aload_n 0, 1)) rfl
theorem t176_408 : rn 176 408 (a0 :: a1 :: a2 :: some (.int x) :: l) r M = rn 176 409 (a0 :: a1 :: a2 :: some (.int x) :: l) (.int x :: r) M := r_iload_n (by decide +kernel : decode (mB 176) 408 = .ok (.iload_n 3, 1)) rfl
theorem t176_409 : rn 176 409 ls r M = rn 176 410 ls (.int 1 :: r) M := r_nx (by decide +kernel : decode (mB 176) 409 = .ok (.iconst 1, 1)) rfl rfl
theorem t176_410 : rn 176 410 ls (.int y :: .int x :: r) M = rn 176 411 ls (.int (x + y) :: r) M := r_nx (by decide +kernel : decode (mB 176) 410 = .ok (.iadd, 1)) rfl rfl
theorem t176_411 : rn 176 411 ls (.int x :: .ref a :: r) M = if ((mK M a).1 = 1 ∨ (mK M a).1 = 5) ∧ inR x (mK M a).2 then rn 176 412 ls (.int (mI M a x.toNatClampNeg) :: r) M else none := r_cnd (by decide +kernel : decode (mB 176) 411 = .ok (.iaload, 1)) rfl rfl
theorem t176_412 : rn 176 412 (some (.ref a) :: l) r M = rn 176 413 (some (.ref a) :: l) (.ref a :: r) M := r_aload_n (by decide +kernel : decode (mB 176) 412 = .ok (.aload_n 0, 1)) rfl
theorem t176_413 : rn 176 413 (a0 :: a1 :: a2 :: some (.int x) :: l) r M = rn 176 414 (a0 :: a1 :: a2 :: some (.int x) :: l) (.int x :: r) M := r_iload_n (by decide +kernel : decode (mB 176) 413 = .ok (.iload_n 3, 1)) rfl
theorem t176_414 : rn 176 414 ls r M = rn 176 415 ls (.int 2 :: r) M := r_nx (by decide +kernel : decode (mB 176) 414 = .ok (.iconst 2, 1)) rfl rfl
theorem t176_415 : rn 176 415 ls (.int y :: .int x :: r) M = rn 176 416 ls (.int (x + y) :: r) M := r_nx (by decide +kernel : decode (mB 176) 415 = .ok (.iadd, 1)) rfl rfl
theorem t176_416 : rn 176 416 ls (.int x :: .ref a :: r) M = if ((mK M a).1 = 1 ∨ (mK M a).1 = 5) ∧ inR x (mK M a).2 then rn 176 417 ls (.int (mI M a x.toNatClampNeg) :: r) M else none := r_cnd (by decide +kernel : decode (mB 176) 416 = .ok (.iaload, 1)) rfl rfl
theorem t176_417 : rn 176 417 ls [.int x, .int y, .ref a, .int z] M = if mK M a = (19, 0) then cbn (cl 146 [.ref a, .int y, .int x] M) 176 420 ls [.int z] else none := r_callV (kd := 0) (by decide +kernel : decode (mB 176) 417 = .ok (.invokevirtual 59, 3)) (by decide +kernel) ((doV_n np_146).trans rfl)
theorem t176_420 : rn 176 420 ls (.int y :: .int x :: r) M = if x = y then rn 176 763 ls r M else rn 176 423 ls r M := r_if (o := 343) (r := r) (c := x = y) (by decide +kernel : decode (mB 176) 420 = .ok (.if_icmp .eq 343, 3)) rfl (by decide) rfl
theorem t176_423 : rn 176 423 ls r M = rn 176 424 ls (.int 0 :: r) M := r_nx (by decide +kernel : decode (mB 176) 423 = .ok (.iconst 0, 1)) rfl rfl
theorem t176_424 : rn 176 424 ls [.int x] M = if x = 0 ∨ x = 1 then some (some (.int x), M) else none := r_zreturn (by decide +kernel : decode (mB 176) 424 = .ok (.ireturn, 1)) rfl
theorem t176_425 : rn 176 425 (a0 :: some (.ref a) :: l) r M = rn 176 426 (a0 :: some (.ref a) :: l) (.ref a :: r) M := r_aload_n (by decide +kernel : decode (mB 176) 425 = .ok (.aload_n 1, 1)) rfl
theorem t176_426 : rn 176 426 (some (.ref a) :: l) r M = rn 176 427 (some (.ref a) :: l) (.ref a :: r) M := r_aload_n (by decide +kernel : decode (mB 176) 426 = .ok (.aload_n 0, 1)) rfl
theorem t176_427 : rn 176 427 (a0 :: a1 :: a2 :: some (.int x) :: l) r M = rn 176 428 (a0 :: a1 :: a2 :: some (.int x) :: l) (.int x :: r) M := r_iload_n (by decide +kernel : decode (mB 176) 427 = .ok (.iload_n 3, 1)) rfl
theorem t176_428 : rn 176 428 ls r M = rn 176 429 ls (.int 1 :: r) M := r_nx (by decide +kernel : decode (mB 176) 428 = .ok (.iconst 1, 1)) rfl rfl
theorem t176_429 : rn 176 429 ls (.int y :: .int x :: r) M = rn 176 430 ls (.int (x + y) :: r) M := r_nx (by decide +kernel : decode (mB 176) 429 = .ok (.iadd, 1)) rfl rfl
theorem t176_430 : rn 176 430 ls (.int x :: .ref a :: r) M = if ((mK M a).1 = 1 ∨ (mK M a).1 = 5) ∧ inR x (mK M a).2 then rn 176 431 ls (.int (mI M a x.toNatClampNeg) :: r) M else none := r_cnd (by decide +kernel : decode (mB 176) 430 = .ok (.iaload, 1)) rfl rfl
theorem t176_431 : rn 176 431 ls [.int x, .ref a] M = if mK M a = (10, 0) then cbn (cl 61 [.ref a, .int x] M) 176 434 ls [] else none := r_callV (kd := 0) (by decide +kernel : decode (mB 176) 431 = .ok (.invokevirtual 60, 3)) (by decide +kernel) ((doV_n np_61).trans rfl)
theorem t176_434 : rn 176 434 (a0 :: a1 :: some (.ref a) :: l) r M = rn 176 435 (a0 :: a1 :: some (.ref a) :: l) (.ref a :: r) M := r_aload_n (by decide +kernel : decode (mB 176) 434 = .ok (.aload_n 2, 1)) rfl
theorem t176_435 : rn 176 435 (some (.ref a) :: l) r M = rn 176 436 (some (.ref a) :: l) (.ref a :: r) M := r_aload_n (by decide +kernel : decode (mB 176) 435 = .ok (.aload_n 0, 1)) rfl
theorem t176_436 : rn 176 436 (a0 :: a1 :: a2 :: some (.int x) :: l) r M = rn 176 437 (a0 :: a1 :: a2 :: some (.int x) :: l) (.int x :: r) M := r_iload_n (by decide +kernel : decode (mB 176) 436 = .ok (.iload_n 3, 1)) rfl
theorem t176_437 : rn 176 437 ls r M = rn 176 438 ls (.int 1 :: r) M := r_nx (by decide +kernel : decode (mB 176) 437 = .ok (.iconst 1, 1)) rfl rfl
theorem t176_438 : rn 176 438 ls (.int y :: .int x :: r) M = rn 176 439 ls (.int (x + y) :: r) M := r_nx (by decide +kernel : decode (mB 176) 438 = .ok (.iadd, 1)) rfl rfl
theorem t176_439 : rn 176 439 ls (.int x :: .ref a :: r) M = if ((mK M a).1 = 1 ∨ (mK M a).1 = 5) ∧ inR x (mK M a).2 then rn 176 440 ls (.int (mI M a x.toNatClampNeg) :: r) M else none := r_cnd (by decide +kernel : decode (mB 176) 439 = .ok (.iaload, 1)) rfl rfl
theorem t176_440 : rn 176 440 ls [.int x, .ref a, .long u] M = if mK M a = (19, 0) then cbn (cl 148 [.ref a, .int x] M) 176 443 ls [.long u] else none := r_callV (kd := 0) (by decide +kernel : decode (mB 176) 440 = .ok (.invokevirtual 64, 3)) (by decide +kernel) ((doV_n np_148).trans rfl)
theorem t176_443 : rn 176 443 ls (.long v :: .long u :: r) M = rn 176 444 ls (.int (lg_cmp u v) :: r) M := r_nx (by decide +kernel : decode (mB 176) 443 = .ok (.lcmp, 1)) rfl rfl
theorem t176_444 : rn 176 444 ls (.int x :: r) M = if x = 0 then rn 176 763 ls r M else rn 176 447 ls r M := r_if (o := 319) (r := r) (c := x = 0) (by decide +kernel : decode (mB 176) 444 = .ok (.ifCond .eq 319, 3)) rfl (by decide) rfl
theorem t176_447 : rn 176 447 ls r M = rn 176 448 ls (.int 0 :: r) M := r_nx (by decide +kernel : decode (mB 176) 447 = .ok (.iconst 0, 1)) rfl rfl
theorem t176_448 : rn 176 448 ls [.int x] M = if x = 0 ∨ x = 1 then some (some (.int x), M) else none := r_zreturn (by decide +kernel : decode (mB 176) 448 = .ok (.ireturn, 1)) rfl
theorem t176_449 : rn 176 449 (a0 :: some (.ref a) :: l) r M = rn 176 450 (a0 :: some (.ref a) :: l) (.ref a :: r) M := r_aload_n (by decide +kernel : decode (mB 176) 449 = .ok (.aload_n 1, 1)) rfl
theorem t176_450 : rn 176 450 (some (.ref a) :: l) r M = rn 176 451 (some (.ref a) :: l) (.ref a :: r) M := r_aload_n (by decide +kernel : decode (mB 176) 450 = .ok (.aload_n 0, 1)) rfl
theorem t176_451 : rn 176 451 (a0 :: a1 :: a2 :: some (.int x) :: l) r M = rn 176 452 (a0 :: a1 :: a2 :: some (.int x) :: l) (.int x :: r) M := r_iload_n (by decide +kernel : decode (mB 176) 451 = .ok (.iload_n 3, 1)) rfl
theorem t176_452 : rn 176 452 ls r M = rn 176 453 ls (.int 1 :: r) M := r_nx (by decide +kernel : decode (mB 176) 452 = .ok (.iconst 1, 1)) rfl rfl
theorem t176_453 : rn 176 453 ls (.int y :: .int x :: r) M = rn 176 454 ls (.int (x + y) :: r) M := r_nx (by decide +kernel : decode (mB 176) 453 = .ok (.iadd, 1)) rfl rfl
theorem t176_454 : rn 176 454 ls (.int x :: .ref a :: r) M = if ((mK M a).1 = 1 ∨ (mK M a).1 = 5) ∧ inR x (mK M a).2 then rn 176 455 ls (.int (mI M a x.toNatClampNeg) :: r) M else none := r_cnd (by decide +kernel : decode (mB 176) 454 = .ok (.iaload, 1)) rfl rfl
theorem t176_455 : rn 176 455 (some (.ref a) :: l) r M = rn 176 456 (some (.ref a) :: l) (.ref a :: r) M := r_aload_n (by decide +kernel : decode (mB 176) 455 = .ok (.aload_n 0, 1)) rfl
theorem t176_456 : rn 176 456 (a0 :: a1 :: a2 :: some (.int x) :: l) r M = rn 176 457 (a0 :: a1 :: a2 :: some (.int x) :: l) (.int x :: r) M := r_iload_n (by decide +kernel : decode (mB 176) 456 = .ok (.iload_n 3, 1)) rfl
theorem t176_457 : rn 176 457 ls r M = rn 176 458 ls (.int 2 :: r) M := r_nx (by decide +kernel : decode (mB 176) 457 = .ok (.iconst 2, 1)) rfl rfl
theorem t176_458 : rn 176 458 ls (.int y :: .int x :: r) M = rn 176 459 ls (.int (x + y) :: r) M := r_nx (by decide +kernel : decode (mB 176) 458 = .ok (.iadd, 1)) rfl rfl
theorem t176_459 : rn 176 459 ls (.int x :: .ref a :: r) M = if ((mK M a).1 = 1 ∨ (mK M a).1 = 5) ∧ inR x (mK M a).2 then rn 176 460 ls (.int (mI M a x.toNatClampNeg) :: r) M else none := r_cnd (by decide +kernel : decode (mB 176) 459 = .ok (.iaload, 1)) rfl rfl
theorem t176_460 : rn 176 460 ls [.int x, .int y, .ref a] M = if mK M a = (10, 0) then cbn (cl 62 [.ref a, .int y, .int x] M) 176 463 ls [] else none := r_callV (kd := 0) (by decide +kernel : decode (mB 176) 460 = .ok (.invokevirtual 65, 3)) (by decide +kernel) ((doV_n np_62).trans rfl)
theorem t176_463 : rn 176 463 (a0 :: a1 :: some (.ref a) :: l) r M = rn 176 464 (a0 :: a1 :: some (.ref a) :: l) (.ref a :: r) M := r_aload_n (by decide +kernel : decode (mB 176) 463 = .ok (.aload_n 2, 1)) rfl
theorem t176_464 : rn 176 464 (some (.ref a) :: l) r M = rn 176 465 (some (.ref a) :: l) (.ref a :: r) M := r_aload_n (by decide +kernel : decode (mB 176) 464 = .ok (.aload_n 0, 1)) rfl
theorem t176_465 : rn 176 465 (a0 :: a1 :: a2 :: some (.int x) :: l) r M = rn 176 466 (a0 :: a1 :: a2 :: some (.int x) :: l) (.int x :: r) M := r_iload_n (by decide +kernel : decode (mB 176) 465 = .ok (.iload_n 3, 1)) rfl
theorem t176_466 : rn 176 466 ls r M = rn 176 467 ls (.int 1 :: r) M := r_nx (by decide +kernel : decode (mB 176) 466 = .ok (.iconst 1, 1)) rfl rfl
theorem t176_467 : rn 176 467 ls (.int y :: .int x :: r) M = rn 176 468 ls (.int (x + y) :: r) M := r_nx (by decide +kernel : decode (mB 176) 467 = .ok (.iadd, 1)) rfl rfl
theorem t176_468 : rn 176 468 ls (.int x :: .ref a :: r) M = if ((mK M a).1 = 1 ∨ (mK M a).1 = 5) ∧ inR x (mK M a).2 then rn 176 469 ls (.int (mI M a x.toNatClampNeg) :: r) M else none := r_cnd (by decide +kernel : decode (mB 176) 468 = .ok (.iaload, 1)) rfl rfl
theorem t176_469 : rn 176 469 (some (.ref a) :: l) r M = rn 176 470 (some (.ref a) :: l) (.ref a :: r) M := r_aload_n (by decide +kernel : decode (mB 176) 469 = .ok (.aload_n 0, 1)) rfl
theorem t176_470 : rn 176 470 (a0 :: a1 :: a2 :: some (.int x) :: l) r M = rn 176 471 (a0 :: a1 :: a2 :: some (.int x) :: l) (.int x :: r) M := r_iload_n (by decide +kernel : decode (mB 176) 470 = .ok (.iload_n 3, 1)) rfl
theorem t176_471 : rn 176 471 ls r M = rn 176 472 ls (.int 2 :: r) M := r_nx (by decide +kernel : decode (mB 176) 471 = .ok (.iconst 2, 1)) rfl rfl
theorem t176_472 : rn 176 472 ls (.int y :: .int x :: r) M = rn 176 473 ls (.int (x + y) :: r) M := r_nx (by decide +kernel : decode (mB 176) 472 = .ok (.iadd, 1)) rfl rfl
theorem t176_473 : rn 176 473 ls (.int x :: .ref a :: r) M = if ((mK M a).1 = 1 ∨ (mK M a).1 = 5) ∧ inR x (mK M a).2 then rn 176 474 ls (.int (mI M a x.toNatClampNeg) :: r) M else none := r_cnd (by decide +kernel : decode (mB 176) 473 = .ok (.iaload, 1)) rfl rfl
theorem t176_474 : rn 176 474 ls [.int x, .int y, .ref a, .int z] M = if mK M a = (19, 0) then cbn (cl 149 [.ref a, .int y, .int x] M) 176 477 ls [.int z] else none := r_callV (kd := 0) (by decide +kernel : decode (mB 176) 474 = .ok (.invokevirtual 68, 3)) (by decide +kernel) ((doV_n np_149).trans rfl)
theorem t176_477 : rn 176 477 ls (.int y :: .int x :: r) M = if x = y then rn 176 763 ls r M else rn 176 480 ls r M := r_if (o := 286) (r := r) (c := x = y) (by decide +kernel : decode (mB 176) 477 = .ok (.if_icmp .eq 286, 3)) rfl (by decide) rfl
theorem t176_480 : rn 176 480 ls r M = rn 176 481 ls (.int 0 :: r) M := r_nx (by decide +kernel : decode (mB 176) 480 = .ok (.iconst 0, 1)) rfl rfl
theorem t176_481 : rn 176 481 ls [.int x] M = if x = 0 ∨ x = 1 then some (some (.int x), M) else none := r_zreturn (by decide +kernel : decode (mB 176) 481 = .ok (.ireturn, 1)) rfl
theorem t176_482 : rn 176 482 (a0 :: some (.ref a) :: l) r M = rn 176 483 (a0 :: some (.ref a) :: l) (.ref a :: r) M := r_aload_n (by decide +kernel : decode (mB 176) 482 = .ok (.aload_n 1, 1)) rfl
theorem t176_483 : rn 176 483 (some (.ref a) :: l) r M = rn 176 484 (some (.ref a) :: l) (.ref a :: r) M := r_aload_n (by decide +kernel : decode (mB 176) 483 = .ok (.aload_n 0, 1)) rfl
theorem t176_484 : rn 176 484 (a0 :: a1 :: a2 :: some (.int x) :: l) r M = rn 176 485 (a0 :: a1 :: a2 :: some (.int x) :: l) (.int x :: r) M := r_iload_n (by decide +kernel : decode (mB 176) 484 = .ok (.iload_n 3, 1)) rfl
theorem t176_485 : rn 176 485 ls r M = rn 176 486 ls (.int 1 :: r) M := r_nx (by decide +kernel : decode (mB 176) 485 = .ok (.iconst 1, 1)) rfl rfl
theorem t176_486 : rn 176 486 ls (.int y :: .int x :: r) M = rn 176 487 ls (.int (x + y) :: r) M := r_nx (by decide +kernel : decode (mB 176) 486 = .ok (.iadd, 1)) rfl rfl
theorem t176_487 : rn 176 487 ls (.int x :: .ref a :: r) M = if ((mK M a).1 = 1 ∨ (mK M a).1 = 5) ∧ inR x (mK M a).2 then rn 176 488 ls (.int (mI M a x.toNatClampNeg) :: r) M else none := r_cnd (by decide +kernel : decode (mB 176) 487 = .ok (.iaload, 1)) rfl rfl
theorem t176_488 : rn 176 488 ls [.int x, .ref a] M = if mK M a = (10, 0) then cbn (cl 65 [.ref a, .int x] M) 176 491 ls [] else none := r_callV (kd := 0) (by decide +kernel : decode (mB 176) 488 = .ok (.invokevirtual 69, 3)) (by decide +kernel) ((doV_n np_65).trans rfl)
theorem t176_491 : rn 176 491 (a0 :: a1 :: some (.ref a) :: l) r M = rn 176 492 (a0 :: a1 :: some (.ref a) :: l) (.ref a :: r) M := r_aload_n (by decide +kernel : decode (mB 176) 491 = .ok (.aload_n 2, 1)) rfl
theorem t176_492 : rn 176 492 (some (.ref a) :: l) r M = rn 176 493 (some (.ref a) :: l) (.ref a :: r) M := r_aload_n (by decide +kernel : decode (mB 176) 492 = .ok (.aload_n 0, 1)) rfl
theorem t176_493 : rn 176 493 (a0 :: a1 :: a2 :: some (.int x) :: l) r M = rn 176 494 (a0 :: a1 :: a2 :: some (.int x) :: l) (.int x :: r) M := r_iload_n (by decide +kernel : decode (mB 176) 493 = .ok (.iload_n 3, 1)) rfl
theorem t176_494 : rn 176 494 ls r M = rn 176 495 ls (.int 1 :: r) M := r_nx (by decide +kernel : decode (mB 176) 494 = .ok (.iconst 1, 1)) rfl rfl
theorem t176_495 : rn 176 495 ls (.int y :: .int x :: r) M = rn 176 496 ls (.int (x + y) :: r) M := r_nx (by decide +kernel : decode (mB 176) 495 = .ok (.iadd, 1)) rfl rfl
theorem t176_496 : rn 176 496 ls (.int x :: .ref a :: r) M = if ((mK M a).1 = 1 ∨ (mK M a).1 = 5) ∧ inR x (mK M a).2 then rn 176 497 ls (.int (mI M a x.toNatClampNeg) :: r) M else none := r_cnd (by decide +kernel : decode (mB 176) 496 = .ok (.iaload, 1)) rfl rfl
theorem t176_497 : rn 176 497 ls [.int x, .ref a, .int y] M = if mK M a = (19, 0) then cbn (cl 152 [.ref a, .int x] M) 176 500 ls [.int y] else none := r_callV (kd := 0) (by decide +kernel : decode (mB 176) 497 = .ok (.invokevirtual 72, 3)) (by decide +kernel) ((doV_n np_152).trans rfl)
theorem t176_500 : rn 176 500 ls (.int y :: .int x :: r) M = if x = y then rn 176 763 ls r M else rn 176 503 ls r M := r_if (o := 263) (r := r) (c := x = y) (by decide +kernel : decode (mB 176) 500 = .ok (.if_icmp .eq 263, 3)) rfl (by decide) rfl
theorem t176_503 : rn 176 503 ls r M = rn 176 504 ls (.int 0 :: r) M := r_nx (by decide +kernel : decode (mB 176) 503 = .ok (.iconst 0, 1)) rfl rfl
theorem t176_504 : rn 176 504 ls [.int x] M = if x = 0 ∨ x = 1 then some (some (.int x), M) else none := r_zreturn (by decide +kernel : decode (mB 176) 504 = .ok (.ireturn, 1)) rfl
theorem t176_505 : rn 176 505 (a0 :: some (.ref a) :: l) r M = rn 176 506 (a0 :: some (.ref a) :: l) (.ref a :: r) M := r_aload_n (by decide +kernel : decode (mB 176) 505 = .ok (.aload_n 1, 1)) rfl
theorem t176_506 : rn 176 506 (some (.ref a) :: l) r M = rn 176 507 (some (.ref a) :: l) (.ref a :: r) M := r_aload_n (by decide +kernel : decode (mB 176) 506 = .ok (.aload_n 0, 1)) rfl
theorem t176_507 : rn 176 507 (a0 :: a1 :: a2 :: some (.int x) :: l) r M = rn 176 508 (a0 :: a1 :: a2 :: some (.int x) :: l) (.int x :: r) M := r_iload_n (by decide +kernel : decode (mB 176) 507 = .ok (.iload_n 3, 1)) rfl
theorem t176_508 : rn 176 508 ls r M = rn 176 509 ls (.int 1 :: r) M := r_nx (by decide +kernel : decode (mB 176) 508 = .ok (.iconst 1, 1)) rfl rfl
theorem t176_509 : rn 176 509 ls (.int y :: .int x :: r) M = rn 176 510 ls (.int (x + y) :: r) M := r_nx (by decide +kernel : decode (mB 176) 509 = .ok (.iadd, 1)) rfl rfl
theorem t176_510 : rn 176 510 ls (.int x :: .ref a :: r) M = if ((mK M a).1 = 1 ∨ (mK M a).1 = 5) ∧ inR x (mK M a).2 then rn 176 511 ls (.int (mI M a x.toNatClampNeg) :: r) M else none := r_cnd (by decide +kernel : decode (mB 176) 510 = .ok (.iaload, 1)) rfl rfl
theorem t176_511 : rn 176 511 ls [.int x, .ref a] M = if mK M a = (10, 0) then cbn (cl 67 [.ref a, .int x] M) 176 514 ls [] else none := r_callV (kd := 0) (by decide +kernel : decode (mB 176) 511 = .ok (.invokevirtual 73, 3)) (by decide +kernel) ((doV_n np_67).trans rfl)
theorem t176_514 : rn 176 514 (a0 :: a1 :: some (.ref a) :: l) r M = rn 176 515 (a0 :: a1 :: some (.ref a) :: l) (.ref a :: r) M := r_aload_n (by decide +kernel : decode (mB 176) 514 = .ok (.aload_n 2, 1)) rfl
theorem t176_515 : rn 176 515 (some (.ref a) :: l) r M = rn 176 516 (some (.ref a) :: l) (.ref a :: r) M := r_aload_n (by decide +kernel : decode (mB 176) 515 = .ok (.aload_n 0, 1)) rfl
theorem t176_516 : rn 176 516 (a0 :: a1 :: a2 :: some (.int x) :: l) r M = rn 176 517 (a0 :: a1 :: a2 :: some (.int x) :: l) (.int x :: r) M := r_iload_n (by decide +kernel : decode (mB 176) 516 = .ok (.iload_n 3, 1)) rfl
theorem t176_517 : rn 176 517 ls r M = rn 176 518 ls (.int 1 :: r) M := r_nx (by decide +kernel : decode (mB 176) 517 = .ok (.iconst 1, 1)) rfl rfl
theorem t176_518 : rn 176 518 ls (.int y :: .int x :: r) M = rn 176 519 ls (.int (x + y) :: r) M := r_nx (by decide +kernel : decode (mB 176) 518 = .ok (.iadd, 1)) rfl rfl
theorem t176_519 : rn 176 519 ls (.int x :: .ref a :: r) M = if ((mK M a).1 = 1 ∨ (mK M a).1 = 5) ∧ inR x (mK M a).2 then rn 176 520 ls (.int (mI M a x.toNatClampNeg) :: r) M else none := r_cnd (by decide +kernel : decode (mB 176) 519 = .ok (.iaload, 1)) rfl rfl
theorem t176_520 : rn 176 520 ls [.int x, .ref a, .long u] M = if mK M a = (19, 0) then cbn (cl 156 [.ref a, .int x] M) 176 523 ls [.long u] else none := r_callV (kd := 0) (by decide +kernel : decode (mB 176) 520 = .ok (.invokevirtual 76, 3)) (by decide +kernel) ((doV_n np_156).trans rfl)
theorem t176_523 : rn 176 523 ls (.long v :: .long u :: r) M = rn 176 524 ls (.int (lg_cmp u v) :: r) M := r_nx (by decide +kernel : decode (mB 176) 523 = .ok (.lcmp, 1)) rfl rfl
theorem t176_524 : rn 176 524 ls (.int x :: r) M = if x = 0 then rn 176 763 ls r M else rn 176 527 ls r M := r_if (o := 239) (r := r) (c := x = 0) (by decide +kernel : decode (mB 176) 524 = .ok (.ifCond .eq 239, 3)) rfl (by decide) rfl
theorem t176_527 : rn 176 527 ls r M = rn 176 528 ls (.int 0 :: r) M := r_nx (by decide +kernel : decode (mB 176) 527 = .ok (.iconst 0, 1)) rfl rfl
theorem t176_528 : rn 176 528 ls [.int x] M = if x = 0 ∨ x = 1 then some (some (.int x), M) else none := r_zreturn (by decide +kernel : decode (mB 176) 528 = .ok (.ireturn, 1)) rfl
theorem t176_529 : rn 176 529 (a0 :: some (.ref a) :: l) r M = rn 176 530 (a0 :: some (.ref a) :: l) (.ref a :: r) M := r_aload_n (by decide +kernel : decode (mB 176) 529 = .ok (.aload_n 1, 1)) rfl
theorem t176_530 : rn 176 530 (some (.ref a) :: l) r M = rn 176 531 (some (.ref a) :: l) (.ref a :: r) M := r_aload_n (by decide +kernel : decode (mB 176) 530 = .ok (.aload_n 0, 1)) rfl
theorem t176_531 : rn 176 531 (a0 :: a1 :: a2 :: some (.int x) :: l) r M = rn 176 532 (a0 :: a1 :: a2 :: some (.int x) :: l) (.int x :: r) M := r_iload_n (by decide +kernel : decode (mB 176) 531 = .ok (.iload_n 3, 1)) rfl
theorem t176_532 : rn 176 532 ls r M = rn 176 533 ls (.int 1 :: r) M := r_nx (by decide +kernel : decode (mB 176) 532 = .ok (.iconst 1, 1)) rfl rfl
theorem t176_533 : rn 176 533 ls (.int y :: .int x :: r) M = rn 176 534 ls (.int (x + y) :: r) M := r_nx (by decide +kernel : decode (mB 176) 533 = .ok (.iadd, 1)) rfl rfl
theorem t176_534 : rn 176 534 ls (.int x :: .ref a :: r) M = if ((mK M a).1 = 1 ∨ (mK M a).1 = 5) ∧ inR x (mK M a).2 then rn 176 535 ls (.int (mI M a x.toNatClampNeg) :: r) M else none := r_cnd (by decide +kernel : decode (mB 176) 534 = .ok (.iaload, 1)) rfl rfl
theorem t176_535 : rn 176 535 ls [.int x, .ref a] M = if mK M a = (10, 0) then cbn (cl 68 [.ref a, .int x] M) 176 538 ls [] else none := r_callV (kd := 0) (by decide +kernel : decode (mB 176) 535 = .ok (.invokevirtual 77, 3)) (by decide +kernel) ((doV_n np_68).trans rfl)
theorem t176_538 : rn 176 538 (a0 :: a1 :: some (.ref a) :: l) r M = rn 176 539 (a0 :: a1 :: some (.ref a) :: l) (.ref a :: r) M := r_aload_n (by decide +kernel : decode (mB 176) 538 = .ok (.aload_n 2, 1)) rfl
theorem t176_539 : rn 176 539 (some (.ref a) :: l) r M = rn 176 540 (some (.ref a) :: l) (.ref a :: r) M := r_aload_n (by decide +kernel : decode (mB 176) 539 = .ok (.aload_n 0, 1)) rfl
theorem t176_540 : rn 176 540 (a0 :: a1 :: a2 :: some (.int x) :: l) r M = rn 176 541 (a0 :: a1 :: a2 :: some (.int x) :: l) (.int x :: r) M := r_iload_n (by decide +kernel : decode (mB 176) 540 = .ok (.iload_n 3, 1)) rfl
theorem t176_541 : rn 176 541 ls r M = rn 176 542 ls (.int 1 :: r) M := r_nx (by decide +kernel : decode (mB 176) 541 = .ok (.iconst 1, 1)) rfl rfl
theorem t176_542 : rn 176 542 ls (.int y :: .int x :: r) M = rn 176 543 ls (.int (x + y) :: r) M := r_nx (by decide +kernel : decode (mB 176) 542 = .ok (.iadd, 1)) rfl rfl
theorem t176_543 : rn 176 543 ls (.int x :: .ref a :: r) M = if ((mK M a).1 = 1 ∨ (mK M a).1 = 5) ∧ inR x (mK M a).2 then rn 176 544 ls (.int (mI M a x.toNatClampNeg) :: r) M else none := r_cnd (by decide +kernel : decode (mB 176) 543 = .ok (.iaload, 1)) rfl rfl
theorem t176_544 : rn 176 544 ls [.int x, .ref a, .int y] M = if mK M a = (19, 0) then cbn (cl 157 [.ref a, .int x] M) 176 547 ls [.int y] else none := r_callV (kd := 0) (by decide +kernel : decode (mB 176) 544 = .ok (.invokevirtual 80, 3)) (by decide +kernel) ((doV_n np_157).trans rfl)
theorem t176_547 : rn 176 547 ls (.int y :: .int x :: r) M = if x = y then rn 176 763 ls r M else rn 176 550 ls r M := r_if (o := 216) (r := r) (c := x = y) (by decide +kernel : decode (mB 176) 547 = .ok (.if_icmp .eq 216, 3)) rfl (by decide) rfl
theorem t176_550 : rn 176 550 ls r M = rn 176 551 ls (.int 0 :: r) M := r_nx (by decide +kernel : decode (mB 176) 550 = .ok (.iconst 0, 1)) rfl rfl
theorem t176_551 : rn 176 551 ls [.int x] M = if x = 0 ∨ x = 1 then some (some (.int x), M) else none := r_zreturn (by decide +kernel : decode (mB 176) 551 = .ok (.ireturn, 1)) rfl
theorem t176_552 : rn 176 552 (a0 :: some (.ref a) :: l) r M = rn 176 553 (a0 :: some (.ref a) :: l) (.ref a :: r) M := r_aload_n (by decide +kernel : decode (mB 176) 552 = .ok (.aload_n 1, 1)) rfl
theorem t176_553 : rn 176 553 (some (.ref a) :: l) r M = rn 176 554 (some (.ref a) :: l) (.ref a :: r) M := r_aload_n (by decide +kernel : decode (mB 176) 553 = .ok (.aload_n 0, 1)) rfl
theorem t176_554 : rn 176 554 (a0 :: a1 :: a2 :: some (.int x) :: l) r M = rn 176 555 (a0 :: a1 :: a2 :: some (.int x) :: l) (.int x :: r) M := r_iload_n (by decide +kernel : decode (mB 176) 554 = .ok (.iload_n 3, 1)) rfl
theorem t176_555 : rn 176 555 ls r M = rn 176 556 ls (.int 1 :: r) M := r_nx (by decide +kernel : decode (mB 176) 555 = .ok (.iconst 1, 1)) rfl rfl
theorem t176_556 : rn 176 556 ls (.int y :: .int x :: r) M = rn 176 557 ls (.int (x + y) :: r) M := r_nx (by decide +kernel : decode (mB 176) 556 = .ok (.iadd, 1)) rfl rfl
theorem t176_557 : rn 176 557 ls (.int x :: .ref a :: r) M = if ((mK M a).1 = 1 ∨ (mK M a).1 = 5) ∧ inR x (mK M a).2 then rn 176 558 ls (.int (mI M a x.toNatClampNeg) :: r) M else none := r_cnd (by decide +kernel : decode (mB 176) 557 = .ok (.iaload, 1)) rfl rfl
theorem t176_558 : rn 176 558 ls [.int x, .ref a] M = if mK M a = (10, 0) then cbn (cl 70 [.ref a, .int x] M) 176 561 ls [] else none := r_callV (kd := 0) (by decide +kernel : decode (mB 176) 558 = .ok (.invokevirtual 81, 3)) (by decide +kernel) ((doV_n np_70).trans rfl)
theorem t176_561 : rn 176 561 (a0 :: a1 :: some (.ref a) :: l) r M = rn 176 562 (a0 :: a1 :: some (.ref a) :: l) (.ref a :: r) M := r_aload_n (by decide +kernel : decode (mB 176) 561 = .ok (.aload_n 2, 1)) rfl
theorem t176_562 : rn 176 562 (some (.ref a) :: l) r M = rn 176 563 (some (.ref a) :: l) (.ref a :: r) M := r_aload_n (by decide +kernel : decode (mB 176) 562 = .ok (.aload_n 0, 1)) rfl
theorem t176_563 : rn 176 563 (a0 :: a1 :: a2 :: some (.int x) :: l) r M = rn 176 564 (a0 :: a1 :: a2 :: some (.int x) :: l) (.int x :: r) M := r_iload_n (by decide +kernel : decode (mB 176) 563 = .ok (.iload_n 3, 1)) rfl
theorem t176_564 : rn 176 564 ls r M = rn 176 565 ls (.int 1 :: r) M := r_nx (by decide +kernel : decode (mB 176) 564 = .ok (.iconst 1, 1)) rfl rfl
theorem t176_565 : rn 176 565 ls (.int y :: .int x :: r) M = rn 176 566 ls (.int (x + y) :: r) M := r_nx (by decide +kernel : decode (mB 176) 565 = .ok (.iadd, 1)) rfl rfl
theorem t176_566 : rn 176 566 ls (.int x :: .ref a :: r) M = if ((mK M a).1 = 1 ∨ (mK M a).1 = 5) ∧ inR x (mK M a).2 then rn 176 567 ls (.int (mI M a x.toNatClampNeg) :: r) M else none := r_cnd (by decide +kernel : decode (mB 176) 566 = .ok (.iaload, 1)) rfl rfl
theorem t176_567 : rn 176 567 ls [.int x, .ref a, .long u] M = if mK M a = (19, 0) then cbn (cl 158 [.ref a, .int x] M) 176 570 ls [.long u] else none := r_callV (kd := 0) (by decide +kernel : decode (mB 176) 567 = .ok (.invokevirtual 84, 3)) (by decide +kernel) ((doV_n np_158).trans rfl)
theorem t176_570 : rn 176 570 ls (.long v :: .long u :: r) M = rn 176 571 ls (.int (lg_cmp u v) :: r) M := r_nx (by decide +kernel : decode (mB 176) 570 = .ok (.lcmp, 1)) rfl rfl
theorem t176_571 : rn 176 571 ls (.int x :: r) M = if x = 0 then rn 176 763 ls r M else rn 176 574 ls r M := r_if (o := 192) (r := r) (c := x = 0) (by decide +kernel : decode (mB 176) 571 = .ok (.ifCond .eq 192, 3)) rfl (by decide) rfl
theorem t176_574 : rn 176 574 ls r M = rn 176 575 ls (.int 0 :: r) M := r_nx (by decide +kernel : decode (mB 176) 574 = .ok (.iconst 0, 1)) rfl rfl
theorem t176_575 : rn 176 575 ls [.int x] M = if x = 0 ∨ x = 1 then some (some (.int x), M) else none := r_zreturn (by decide +kernel : decode (mB 176) 575 = .ok (.ireturn, 1)) rfl
theorem t176_576 : rn 176 576 (a0 :: some (.ref a) :: l) r M = rn 176 577 (a0 :: some (.ref a) :: l) (.ref a :: r) M := r_aload_n (by decide +kernel : decode (mB 176) 576 = .ok (.aload_n 1, 1)) rfl
theorem t176_577 : rn 176 577 (some (.ref a) :: l) r M = rn 176 578 (some (.ref a) :: l) (.ref a :: r) M := r_aload_n (by decide +kernel : decode (mB 176) 577 = .ok (.aload_n 0, 1)) rfl
theorem t176_578 : rn 176 578 (a0 :: a1 :: a2 :: some (.int x) :: l) r M = rn 176 579 (a0 :: a1 :: a2 :: some (.int x) :: l) (.int x :: r) M := r_iload_n (by decide +kernel : decode (mB 176) 578 = .ok (.iload_n 3, 1)) rfl
theorem t176_579 : rn 176 579 ls r M = rn 176 580 ls (.int 1 :: r) M := r_nx (by decide +kernel : decode (mB 176) 579 = .ok (.iconst 1, 1)) rfl rfl
theorem t176_580 : rn 176 580 ls (.int y :: .int x :: r) M = rn 176 581 ls (.int (x + y) :: r) M := r_nx (by decide +kernel : decode (mB 176) 580 = .ok (.iadd, 1)) rfl rfl
theorem t176_581 : rn 176 581 ls (.int x :: .ref a :: r) M = if ((mK M a).1 = 1 ∨ (mK M a).1 = 5) ∧ inR x (mK M a).2 then rn 176 582 ls (.int (mI M a x.toNatClampNeg) :: r) M else none := r_cnd (by decide +kernel : decode (mB 176) 581 = .ok (.iaload, 1)) rfl rfl
theorem t176_582 : rn 176 582 ls [.int x, .ref a] M = if mK M a = (10, 0) then cbn (cl 71 [.ref a, .int x] M) 176 585 ls [] else none := r_callV (kd := 0) (by decide +kernel : decode (mB 176) 582 = .ok (.invokevirtual 85, 3)) (by decide +kernel) ((doV_n np_71).trans rfl)
theorem t176_585 : rn 176 585 (a0 :: a1 :: some (.ref a) :: l) r M = rn 176 586 (a0 :: a1 :: some (.ref a) :: l) (.ref a :: r) M := r_aload_n (by decide +kernel : decode (mB 176) 585 = .ok (.aload_n 2, 1)) rfl
theorem t176_586 : rn 176 586 (some (.ref a) :: l) r M = rn 176 587 (some (.ref a) :: l) (.ref a :: r) M := r_aload_n (by decide +kernel : decode (mB 176) 586 = .ok (.aload_n 0, 1)) rfl
theorem t176_587 : rn 176 587 (a0 :: a1 :: a2 :: some (.int x) :: l) r M = rn 176 588 (a0 :: a1 :: a2 :: some (.int x) :: l) (.int x :: r) M := r_iload_n (by decide +kernel : decode (mB 176) 587 = .ok (.iload_n 3, 1)) rfl
theorem t176_588 : rn 176 588 ls r M = rn 176 589 ls (.int 1 :: r) M := r_nx (by decide +kernel : decode (mB 176) 588 = .ok (.iconst 1, 1)) rfl rfl
theorem t176_589 : rn 176 589 ls (.int y :: .int x :: r) M = rn 176 590 ls (.int (x + y) :: r) M := r_nx (by decide +kernel : decode (mB 176) 589 = .ok (.iadd, 1)) rfl rfl
theorem t176_590 : rn 176 590 ls (.int x :: .ref a :: r) M = if ((mK M a).1 = 1 ∨ (mK M a).1 = 5) ∧ inR x (mK M a).2 then rn 176 591 ls (.int (mI M a x.toNatClampNeg) :: r) M else none := r_cnd (by decide +kernel : decode (mB 176) 590 = .ok (.iaload, 1)) rfl rfl
theorem t176_591 : rn 176 591 ls [.int x, .ref a, .int y] M = if mK M a = (19, 0) then cbn (cl 159 [.ref a, .int x] M) 176 594 ls [.int y] else none := r_callV (kd := 0) (by decide +kernel : decode (mB 176) 591 = .ok (.invokevirtual 88, 3)) (by decide +kernel) ((doV_n np_159).trans rfl)
theorem t176_594 : rn 176 594 ls (.int y :: .int x :: r) M = if x = y then rn 176 763 ls r M else rn 176 597 ls r M := r_if (o := 169) (r := r) (c := x = y) (by decide +kernel : decode (mB 176) 594 = .ok (.if_icmp .eq 169, 3)) rfl (by decide) rfl
theorem t176_597 : rn 176 597 ls r M = rn 176 598 ls (.int 0 :: r) M := r_nx (by decide +kernel : decode (mB 176) 597 = .ok (.iconst 0, 1)) rfl rfl
theorem t176_598 : rn 176 598 ls [.int x] M = if x = 0 ∨ x = 1 then some (some (.int x), M) else none := r_zreturn (by decide +kernel : decode (mB 176) 598 = .ok (.ireturn, 1)) rfl
theorem t176_599 : rn 176 599 (a0 :: some (.ref a) :: l) r M = rn 176 600 (a0 :: some (.ref a) :: l) (.ref a :: r) M := r_aload_n (by decide +kernel : decode (mB 176) 599 = .ok (.aload_n 1, 1)) rfl
theorem t176_600 : rn 176 600 ls [.ref a] M = if mK M a = (10, 0) then cbn (cl 72 [.ref a] M) 176 603 ls [] else none := r_callV (kd := 0) (by decide +kernel : decode (mB 176) 600 = .ok (.invokevirtual 89, 3)) (by decide +kernel) ((doV_n np_72).trans rfl)
theorem t176_603 : rn 176 603 (a0 :: a1 :: some (.ref a) :: l) r M = rn 176 604 (a0 :: a1 :: some (.ref a) :: l) (.ref a :: r) M := r_aload_n (by decide +kernel : decode (mB 176) 603 = .ok (.aload_n 2, 1)) rfl
theorem t176_604 : rn 176 604 ls [.ref a, .int x] M = if mK M a = (19, 0) then cbn (cl 160 [.ref a] M) 176 607 ls [.int x] else none := r_callV (kd := 0) (by decide +kernel : decode (mB 176) 604 = .ok (.invokevirtual 92, 3)) (by decide +kernel) ((doV_n np_160).trans rfl)
theorem t176_607 : rn 176 607 ls (.int y :: .int x :: r) M = if x = y then rn 176 763 ls r M else rn 176 610 ls r M := r_if (o := 156) (r := r) (c := x = y) (by decide +kernel : decode (mB 176) 607 = .ok (.if_icmp .eq 156, 3)) rfl (by decide) rfl
theorem t176_610 : rn 176 610 ls r M = rn 176 611 ls (.int 0 :: r) M := r_nx (by decide +kernel : decode (mB 176) 610 = .ok (.iconst 0, 1)) rfl rfl
theorem t176_611 : rn 176 611 ls [.int x] M = if x = 0 ∨ x = 1 then some (some (.int x), M) else none := r_zreturn (by decide +kernel : decode (mB 176) 611 = .ok (.ireturn, 1)) rfl
theorem t176_612 : rn 176 612 (a0 :: some (.ref a) :: l) r M = rn 176 613 (a0 :: some (.ref a) :: l) (.ref a :: r) M := r_aload_n (by decide +kernel : decode (mB 176) 612 = .ok (.aload_n 1, 1)) rfl
theorem t176_613 : rn 176 613 (some (.ref a) :: l) r M = rn 176 614 (some (.ref a) :: l) (.ref a :: r) M := r_aload_n (by decide +kernel : decode (mB 176) 613 = .ok (.aload_n 0, 1)) rfl
theorem t176_614 : rn 176 614 (a0 :: a1 :: a2 :: some (.int x) :: l) r M = rn 176 615 (a0 :: a1 :: a2 :: some (.int x) :: l) (.int x :: r) M := r_iload_n (by decide +kernel : decode (mB 176) 614 = .ok (.iload_n 3, 1)) rfl
theorem t176_615 : rn 176 615 ls r M = rn 176 616 ls (.int 1 :: r) M := r_nx (by decide +kernel : decode (mB 176) 615 = .ok (.iconst 1, 1)) rfl rfl
theorem t176_616 : rn 176 616 ls (.int y :: .int x :: r) M = rn 176 617 ls (.int (x + y) :: r) M := r_nx (by decide +kernel : decode (mB 176) 616 = .ok (.iadd, 1)) rfl rfl
theorem t176_617 : rn 176 617 ls (.int x :: .ref a :: r) M = if ((mK M a).1 = 1 ∨ (mK M a).1 = 5) ∧ inR x (mK M a).2 then rn 176 618 ls (.int (mI M a x.toNatClampNeg) :: r) M else none := r_cnd (by decide +kernel : decode (mB 176) 617 = .ok (.iaload, 1)) rfl rfl
theorem t176_618 : rn 176 618 ls (.int x :: r) M = rn 176 619 ls (.long x.toInt64 :: r) M := r_nx (by decide +kernel : decode (mB 176) 618 = .ok (.i2l, 1)) rfl rfl
theorem t176_619 : rn 176 619 ls r M = rn 176 621 ls (.int 32 :: r) M := r_nx (by decide +kernel : decode (mB 176) 619 = .ok (.bipush 32, 2)) rfl rfl
theorem t176_621 : rn 176 621 ls (.int y :: .long u :: r) M = rn 176 622 ls (.long (u <<< (y.toInt64 &&& 63)) :: r) M := r_nx (by decide +kernel : decode (mB 176) 621 = .ok (.lshl, 1)) rfl rfl
theorem t176_622 : rn 176 622 (some (.ref a) :: l) r M = rn 176 623 (some (.ref a) :: l) (.ref a :: r) M := r_aload_n (by decide +kernel : decode (mB 176) 622 = .ok (.aload_n 0, 1)) rfl
theorem t176_623 : rn 176 623 (a0 :: a1 :: a2 :: some (.int x) :: l) r M = rn 176 624 (a0 :: a1 :: a2 :: some (.int x) :: l) (.int x :: r) M := r_iload_n (by decide +kernel : decode (mB 176) 623 = .ok (.iload_n 3, 1)) rfl
theorem t176_624 : rn 176 624 ls r M = rn 176 625 ls (.int 2 :: r) M := r_nx (by decide +kernel : decode (mB 176) 624 = .ok (.iconst 2, 1)) rfl rfl
theorem t176_625 : rn 176 625 ls (.int y :: .int x :: r) M = rn 176 626 ls (.int (x + y) :: r) M := r_nx (by decide +kernel : decode (mB 176) 625 = .ok (.iadd, 1)) rfl rfl
theorem t176_626 : rn 176 626 ls (.int x :: .ref a :: r) M = if ((mK M a).1 = 1 ∨ (mK M a).1 = 5) ∧ inR x (mK M a).2 then rn 176 627 ls (.int (mI M a x.toNatClampNeg) :: r) M else none := r_cnd (by decide +kernel : decode (mB 176) 626 = .ok (.iaload, 1)) rfl rfl
theorem t176_627 : rn 176 627 ls (.int x :: r) M = rn 176 628 ls (.long x.toInt64 :: r) M := r_nx (by decide +kernel : decode (mB 176) 627 = .ok (.i2l, 1)) rfl rfl
theorem t176_628 : rn 176 628 ls r M = rn 176 631 ls (.long 4294967295 :: r) M := r_nx (by decide +kernel : decode (mB 176) 628 = .ok (.ldc2_w 93, 3)) rfl rfl
theorem t176_631 : rn 176 631 ls (.long v :: .long u :: r) M = rn 176 632 ls (.long (u &&& v) :: r) M := r_nx (by decide +kernel : decode (mB 176) 631 = .ok (.land, 1)) rfl rfl
theorem t176_632 : rn 176 632 ls (.long v :: .long u :: r) M = rn 176 633 ls (.long (u ||| v) :: r) M := r_nx (by decide +kernel : decode (mB 176) 632 = .ok (.lor, 1)) rfl rfl
theorem t176_633 : rn 176 633 ls [.long u, .ref a] M = if mK M a = (10, 0) then cbn (cl 74 [.ref a, .long u] M) 176 636 ls [] else none := r_callV (kd := 0) (by decide +kernel : decode (mB 176) 633 = .ok (.invokevirtual 95, 3)) (by decide +kernel) ((doV_n np_74).trans rfl)
theorem t176_636 : rn 176 636 (a0 :: a1 :: some (.ref a) :: l) r M = rn 176 637 (a0 :: a1 :: some (.ref a) :: l) (.ref a :: r) M := r_aload_n (by decide +kernel : decode (mB 176) 636 = .ok (.aload_n 2, 1)) rfl
theorem t176_637 : rn 176 637 (some (.ref a) :: l) r M = rn 176 638 (some (.ref a) :: l) (.ref a :: r) M := r_aload_n (by decide +kernel : decode (mB 176) 637 = .ok (.aload_n 0, 1)) rfl
theorem t176_638 : rn 176 638 (a0 :: a1 :: a2 :: some (.int x) :: l) r M = rn 176 639 (a0 :: a1 :: a2 :: some (.int x) :: l) (.int x :: r) M := r_iload_n (by decide +kernel : decode (mB 176) 638 = .ok (.iload_n 3, 1)) rfl
theorem t176_639 : rn 176 639 ls r M = rn 176 640 ls (.int 1 :: r) M := r_nx (by decide +kernel : decode (mB 176) 639 = .ok (.iconst 1, 1)) rfl rfl
theorem t176_640 : rn 176 640 ls (.int y :: .int x :: r) M = rn 176 641 ls (.int (x + y) :: r) M := r_nx (by decide +kernel : decode (mB 176) 640 = .ok (.iadd, 1)) rfl rfl
theorem t176_641 : rn 176 641 ls (.int x :: .ref a :: r) M = if ((mK M a).1 = 1 ∨ (mK M a).1 = 5) ∧ inR x (mK M a).2 then rn 176 642 ls (.int (mI M a x.toNatClampNeg) :: r) M else none := r_cnd (by decide +kernel : decode (mB 176) 641 = .ok (.iaload, 1)) rfl rfl
theorem t176_642 : rn 176 642 ls (.int x :: r) M = rn 176 643 ls (.long x.toInt64 :: r) M := r_nx (by decide +kernel : decode (mB 176) 642 = .ok (.i2l, 1)) rfl rfl
theorem t176_643 : rn 176 643 ls r M = rn 176 645 ls (.int 32 :: r) M := r_nx (by decide +kernel : decode (mB 176) 643 = .ok (.bipush 32, 2)) rfl rfl
theorem t176_645 : rn 176 645 ls (.int y :: .long u :: r) M = rn 176 646 ls (.long (u <<< (y.toInt64 &&& 63)) :: r) M := r_nx (by decide +kernel : decode (mB 176) 645 = .ok (.lshl, 1)) rfl rfl
theorem t176_646 : rn 176 646 (some (.ref a) :: l) r M = rn 176 647 (some (.ref a) :: l) (.ref a :: r) M := r_aload_n (by decide +kernel : decode (mB 176) 646 = .ok (.aload_n 0, 1)) rfl
theorem t176_647 : rn 176 647 (a0 :: a1 :: a2 :: some (.int x) :: l) r M = rn 176 648 (a0 :: a1 :: a2 :: some (.int x) :: l) (.int x :: r) M := r_iload_n (by decide +kernel : decode (mB 176) 647 = .ok (.iload_n 3, 1)) rfl
theorem t176_648 : rn 176 648 ls r M = rn 176 649 ls (.int 2 :: r) M := r_nx (by decide +kernel : decode (mB 176) 648 = .ok (.iconst 2, 1)) rfl rfl
theorem t176_649 : rn 176 649 ls (.int y :: .int x :: r) M = rn 176 650 ls (.int (x + y) :: r) M := r_nx (by decide +kernel : decode (mB 176) 649 = .ok (.iadd, 1)) rfl rfl
theorem t176_650 : rn 176 650 ls (.int x :: .ref a :: r) M = if ((mK M a).1 = 1 ∨ (mK M a).1 = 5) ∧ inR x (mK M a).2 then rn 176 651 ls (.int (mI M a x.toNatClampNeg) :: r) M else none := r_cnd (by decide +kernel : decode (mB 176) 650 = .ok (.iaload, 1)) rfl rfl
theorem t176_651 : rn 176 651 ls (.int x :: r) M = rn 176 652 ls (.long x.toInt64 :: r) M := r_nx (by decide +kernel : decode (mB 176) 651 = .ok (.i2l, 1)) rfl rfl
theorem t176_652 : rn 176 652 ls r M = rn 176 655 ls (.long 4294967295 :: r) M := r_nx (by decide +kernel : decode (mB 176) 652 = .ok (.ldc2_w 93, 3)) rfl rfl
theorem t176_655 : rn 176 655 ls (.long v :: .long u :: r) M = rn 176 656 ls (.long (u &&& v) :: r) M := r_nx (by decide +kernel : decode (mB 176) 655 = .ok (.land, 1)) rfl rfl
theorem t176_656 : rn 176 656 ls (.long v :: .long u :: r) M = rn 176 657 ls (.long (u ||| v) :: r) M := r_nx (by decide +kernel : decode (mB 176) 656 = .ok (.lor, 1)) rfl rfl
theorem t176_657 : rn 176 657 ls [.long u, .ref a, .int x] M = if mK M a = (19, 0) then cbn (cl 161 [.ref a, .long u] M) 176 660 ls [.int x] else none := r_callV (kd := 0) (by decide +kernel : decode (mB 176) 657 = .ok (.invokevirtual 99, 3)) (by decide +kernel) ((doV_n np_161).trans rfl)
theorem t176_660 : rn 176 660 ls (.int y :: .int x :: r) M = if x = y then rn 176 763 ls r M else rn 176 663 ls r M := r_if (o := 103) (r := r) (c := x = y) (by decide +kernel : decode (mB 176) 660 = .ok (.if_icmp .eq 103, 3)) rfl (by decide) rfl
theorem t176_663 : rn 176 663 ls r M = rn 176 664 ls (.int 0 :: r) M := r_nx (by decide +kernel : decode (mB 176) 663 = .ok (.iconst 0, 1)) rfl rfl
theorem t176_664 : rn 176 664 ls [.int x] M = if x = 0 ∨ x = 1 then some (some (.int x), M) else none := r_zreturn (by decide +kernel : decode (mB 176) 664 = .ok (.ireturn, 1)) rfl
theorem t176_665 : rn 176 665 (a0 :: some (.ref a) :: l) r M = rn 176 666 (a0 :: some (.ref a) :: l) (.ref a :: r) M := r_aload_n (by decide +kernel : decode (mB 176) 665 = .ok (.aload_n 1, 1)) rfl
theorem t176_666 : rn 176 666 ls [.ref a] M = if mK M a = (10, 0) then cbn (cl 77 [.ref a] M) 176 669 ls [] else none := r_callV (kd := 0) (by decide +kernel : decode (mB 176) 666 = .ok (.invokevirtual 100, 3)) (by decide +kernel) ((doV_n np_77).trans rfl)
theorem t176_669 : rn 176 669 (a0 :: a1 :: some (.ref a) :: l) r M = rn 176 670 (a0 :: a1 :: some (.ref a) :: l) (.ref a :: r) M := r_aload_n (by decide +kernel : decode (mB 176) 669 = .ok (.aload_n 2, 1)) rfl
theorem t176_670 : rn 176 670 ls [.ref a, .int x] M = if mK M a = (19, 0) then cbn (cl 162 [.ref a] M) 176 673 ls [.int x] else none := r_callV (kd := 0) (by decide +kernel : decode (mB 176) 670 = .ok (.invokevirtual 103, 3)) (by decide +kernel) ((doV_n np_162).trans rfl)
theorem t176_673 : rn 176 673 ls (.int y :: .int x :: r) M = if x = y then rn 176 763 ls r M else rn 176 676 ls r M := r_if (o := 90) (r := r) (c := x = y) (by decide +kernel : decode (mB 176) 673 = .ok (.if_icmp .eq 90, 3)) rfl (by decide) rfl
theorem t176_676 : rn 176 676 ls r M = rn 176 677 ls (.int 0 :: r) M := r_nx (by decide +kernel : decode (mB 176) 676 = .ok (.iconst 0, 1)) rfl rfl
theorem t176_677 : rn 176 677 ls [.int x] M = if x = 0 ∨ x = 1 then some (some (.int x), M) else none := r_zreturn (by decide +kernel : decode (mB 176) 677 = .ok (.ireturn, 1)) rfl
theorem t176_678 : rn 176 678 (a0 :: some (.ref a) :: l) r M = rn 176 679 (a0 :: some (.ref a) :: l) (.ref a :: r) M := r_aload_n (by decide +kernel : decode (mB 176) 678 = .ok (.aload_n 1, 1)) rfl
theorem t176_679 : rn 176 679 ls [.ref a] M = if mK M a = (10, 0) then cbn (cl 79 [.ref a] M) 176 682 ls [] else none := r_callV (kd := 0) (by decide +kernel : decode (mB 176) 679 = .ok (.invokevirtual 104, 3)) (by decide +kernel) ((doV_n np_79).trans rfl)
theorem t176_682 : rn 176 682 (a0 :: a1 :: some (.ref a) :: l) r M = rn 176 683 (a0 :: a1 :: some (.ref a) :: l) (.ref a :: r) M := r_aload_n (by decide +kernel : decode (mB 176) 682 = .ok (.aload_n 2, 1)) rfl
theorem t176_683 : rn 176 683 ls [.ref a, .int x] M = if mK M a = (19, 0) then cbn (cl 163 [.ref a] M) 176 686 ls [.int x] else none := r_callV (kd := 0) (by decide +kernel : decode (mB 176) 683 = .ok (.invokevirtual 107, 3)) (by decide +kernel) ((doV_n np_163).trans rfl)
theorem t176_686 : rn 176 686 ls (.int y :: .int x :: r) M = if x = y then rn 176 763 ls r M else rn 176 689 ls r M := r_if (o := 77) (r := r) (c := x = y) (by decide +kernel : decode (mB 176) 686 = .ok (.if_icmp .eq 77, 3)) rfl (by decide) rfl
theorem t176_689 : rn 176 689 ls r M = rn 176 690 ls (.int 0 :: r) M := r_nx (by decide +kernel : decode (mB 176) 689 = .ok (.iconst 0, 1)) rfl rfl
theorem t176_690 : rn 176 690 ls [.int x] M = if x = 0 ∨ x = 1 then some (some (.int x), M) else none := r_zreturn (by decide +kernel : decode (mB 176) 690 = .ok (.ireturn, 1)) rfl
theorem t176_691 : rn 176 691 (a0 :: some (.ref a) :: l) r M = rn 176 692 (a0 :: some (.ref a) :: l) (.ref a :: r) M := r_aload_n (by decide +kernel : decode (mB 176) 691 = .ok (.aload_n 1, 1)) rfl
theorem t176_692 : rn 176 692 ls [.ref a] M = if mK M a = (10, 0) then cbn (cl 92 [.ref a] M) 176 695 ls [] else none := r_callV (kd := 0) (by decide +kernel : decode (mB 176) 692 = .ok (.invokevirtual 108, 3)) (by decide +kernel) ((doV_n np_92).trans rfl)
theorem t176_695 : rn 176 695 (a0 :: a1 :: some (.ref a) :: l) r M = rn 176 696 (a0 :: a1 :: some (.ref a) :: l) (.ref a :: r) M := r_aload_n (by decide +kernel : decode (mB 176) 695 = .ok (.aload_n 2, 1)) rfl
theorem t176_696 : rn 176 696 ls [.ref a, .int x] M = if mK M a = (19, 0) then cbn (cl 170 [.ref a] M) 176 699 ls [.int x] else none := r_callV (kd := 0) (by decide +kernel : decode (mB 176) 696 = .ok (.invokevirtual 111, 3)) (by decide +kernel) ((doV_n np_170).trans rfl)
theorem t176_699 : rn 176 699 ls (.int y :: .int x :: r) M = if x = y then rn 176 763 ls r M else rn 176 702 ls r M := r_if (o := 64) (r := r) (c := x = y) (by decide +kernel : decode (mB 176) 699 = .ok (.if_icmp .eq 64, 3)) rfl (by decide) rfl
theorem t176_702 : rn 176 702 ls r M = rn 176 703 ls (.int 0 :: r) M := r_nx (by decide +kernel : decode (mB 176) 702 = .ok (.iconst 0, 1)) rfl rfl
theorem t176_703 : rn 176 703 ls [.int x] M = if x = 0 ∨ x = 1 then some (some (.int x), M) else none := r_zreturn (by decide +kernel : decode (mB 176) 703 = .ok (.ireturn, 1)) rfl
theorem t176_704 : rn 176 704 (a0 :: some (.ref a) :: l) r M = rn 176 705 (a0 :: some (.ref a) :: l) (.ref a :: r) M := r_aload_n (by decide +kernel : decode (mB 176) 704 = .ok (.aload_n 1, 1)) rfl
theorem t176_705 : rn 176 705 ls [.ref a] M = if mK M a = (10, 0) then cbn (cl 94 [.ref a] M) 176 708 ls [] else none := r_callV (kd := 0) (by decide +kernel : decode (mB 176) 705 = .ok (.invokevirtual 112, 3)) (by decide +kernel) ((doV_n np_94).trans rfl)
theorem t176_708 : rn 176 708 (a0 :: a1 :: some (.ref a) :: l) r M = rn 176 709 (a0 :: a1 :: some (.ref a) :: l) (.ref a :: r) M := r_aload_n (by decide +kernel : decode (mB 176) 708 = .ok (.aload_n 2, 1)) rfl
theorem t176_709 : rn 176 709 ls [.ref a, .int x] M = if mK M a = (19, 0) then cbn (cl 173 [.ref a] M) 176 712 ls [.int x] else none := r_callV (kd := 0) (by decide +kernel : decode (mB 176) 709 = .ok (.invokevirtual 115, 3)) (by decide +kernel) ((doV_n np_173).trans rfl)
theorem t176_712 : rn 176 712 ls (.int y :: .int x :: r) M = if x = y then rn 176 763 ls r M else rn 176 715 ls r M := r_if (o := 51) (r := r) (c := x = y) (by decide +kernel : decode (mB 176) 712 = .ok (.if_icmp .eq 51, 3)) rfl (by decide) rfl
theorem t176_715 : rn 176 715 ls r M = rn 176 716 ls (.int 0 :: r) M := r_nx (by decide +kernel : decode (mB 176) 715 = .ok (.iconst 0, 1)) rfl rfl
theorem t176_716 : rn 176 716 ls [.int x] M = if x = 0 ∨ x = 1 then some (some (.int x), M) else none := r_zreturn (by decide +kernel : decode (mB 176) 716 = .ok (.ireturn, 1)) rfl
theorem t176_717 : rn 176 717 (a0 :: some (.ref a) :: l) r M = rn 176 718 (a0 :: some (.ref a) :: l) (.ref a :: r) M := r_aload_n (by decide +kernel : decode (mB 176) 717 = .ok (.aload_n 1, 1)) rfl
theorem t176_718 : rn 176 718 (some (.ref a) :: l) r M = rn 176 719 (some (.ref a) :: l) (.ref a :: r) M := r_aload_n (by decide +kernel : decode (mB 176) 718 = .ok (.aload_n 0, 1)) rfl
theorem t176_719 : rn 176 719 (a0 :: a1 :: a2 :: some (.int x) :: l) r M = rn 176 720 (a0 :: a1 :: a2 :: some (.int x) :: l) (.int x :: r) M := r_iload_n (by decide +kernel : decode (mB 176) 719 = .ok (.iload_n 3, 1)) rfl
theorem t176_720 : rn 176 720 ls r M = rn 176 721 ls (.int 1 :: r) M := r_nx (by decide +kernel : decode (mB 176) 720 = .ok (.iconst 1, 1)) rfl rfl
theorem t176_721 : rn 176 721 ls (.int y :: .int x :: r) M = rn 176 722 ls (.int (x + y) :: r) M := r_nx (by decide +kernel : decode (mB 176) 721 = .ok (.iadd, 1)) rfl rfl
theorem t176_722 : rn 176 722 ls (.int x :: .ref a :: r) M = if ((mK M a).1 = 1 ∨ (mK M a).1 = 5) ∧ inR x (mK M a).2 then rn 176 723 ls (.int (mI M a x.toNatClampNeg) :: r) M else none := r_cnd (by decide +kernel : decode (mB 176) 722 = .ok (.iaload, 1)) rfl rfl
theorem t176_723 : rn 176 723 ls [.int x, .ref a] M = if mK M a = (10, 0) then cbn (cl 96 [.ref a, .int x] M) 176 726 ls [] else none := r_callV (kd := 0) (by decide +kernel : decode (mB 176) 723 = .ok (.invokevirtual 116, 3)) (by decide +kernel) ((doV_n np_96).trans rfl)
theorem t176_726 : rn 176 726 (a0 :: a1 :: some (.ref a) :: l) r M = rn 176 727 (a0 :: a1 :: some (.ref a) :: l) (.ref a :: r) M := r_aload_n (by decide +kernel : decode (mB 176) 726 = .ok (.aload_n 2, 1)) rfl
theorem t176_727 : rn 176 727 (some (.ref a) :: l) r M = rn 176 728 (some (.ref a) :: l) (.ref a :: r) M := r_aload_n (by decide +kernel : decode (mB 176) 727 = .ok (.aload_n 0, 1)) rfl
theorem t176_728 : rn 176 728 (a0 :: a1 :: a2 :: some (.int x) :: l) r M = rn 176 729 (a0 :: a1 :: a2 :: some (.int x) :: l) (.int x :: r) M := r_iload_n (by decide +kernel : decode (mB 176) 728 = .ok (.iload_n 3, 1)) rfl
theorem t176_729 : rn 176 729 ls r M = rn 176 730 ls (.int 1 :: r) M := r_nx (by decide +kernel : decode (mB 176) 729 = .ok (.iconst 1, 1)) rfl rfl
theorem t176_730 : rn 176 730 ls (.int y :: .int x :: r) M = rn 176 731 ls (.int (x + y) :: r) M := r_nx (by decide +kernel : decode (mB 176) 730 = .ok (.iadd, 1)) rfl rfl
theorem t176_731 : rn 176 731 ls (.int x :: .ref a :: r) M = if ((mK M a).1 = 1 ∨ (mK M a).1 = 5) ∧ inR x (mK M a).2 then rn 176 732 ls (.int (mI M a x.toNatClampNeg) :: r) M else none := r_cnd (by decide +kernel : decode (mB 176) 731 = .ok (.iaload, 1)) rfl rfl
theorem t176_732 : rn 176 732 ls [.int x, .ref a, .int y] M = if mK M a = (19, 0) then cbn (cl 174 [.ref a, .int x] M) 176 735 ls [.int y] else none := r_callV (kd := 0) (by decide +kernel : decode (mB 176) 732 = .ok (.invokevirtual 119, 3)) (by decide +kernel) ((doV_n np_174).trans rfl)
theorem t176_735 : rn 176 735 ls (.int y :: .int x :: r) M = if x = y then rn 176 763 ls r M else rn 176 738 ls r M := r_if (o := 28) (r := r) (c := x = y) (by decide +kernel : decode (mB 176) 735 = .ok (.if_icmp .eq 28, 3)) rfl (by decide) rfl
theorem t176_738 : rn 176 738 ls r M = rn 176 739 ls (.int 0 :: r) M := r_nx (by decide +kernel : decode (mB 176) 738 = .ok (.iconst 0, 1)) rfl rfl
theorem t176_739 : rn 176 739 ls [.int x] M = if x = 0 ∨ x = 1 then some (some (.int x), M) else none := r_zreturn (by decide +kernel : decode (mB 176) 739 = .ok (.ireturn, 1)) rfl
theorem t176_740 : rn 176 740 (a0 :: some (.ref a) :: l) r M = rn 176 741 (a0 :: some (.ref a) :: l) (.ref a :: r) M := r_aload_n (by decide +kernel : decode (mB 176) 740 = .ok (.aload_n 1, 1)) rfl
theorem t176_741 : rn 176 741 (some (.ref a) :: l) r M = rn 176 742 (some (.ref a) :: l) (.ref a :: r) M := r_aload_n (by decide +kernel : decode (mB 176) 741 = .ok (.aload_n 0, 1)) rfl
theorem t176_742 : rn 176 742 (a0 :: a1 :: a2 :: some (.int x) :: l) r M = rn 176 743 (a0 :: a1 :: a2 :: some (.int x) :: l) (.int x :: r) M := r_iload_n (by decide +kernel : decode (mB 176) 742 = .ok (.iload_n 3, 1)) rfl
theorem t176_743 : rn 176 743 ls r M = rn 176 744 ls (.int 1 :: r) M := r_nx (by decide +kernel : decode (mB 176) 743 = .ok (.iconst 1, 1)) rfl rfl
theorem t176_744 : rn 176 744 ls (.int y :: .int x :: r) M = rn 176 745 ls (.int (x + y) :: r) M := r_nx (by decide +kernel : decode (mB 176) 744 = .ok (.iadd, 1)) rfl rfl
theorem t176_745 : rn 176 745 ls (.int x :: .ref a :: r) M = if ((mK M a).1 = 1 ∨ (mK M a).1 = 5) ∧ inR x (mK M a).2 then rn 176 746 ls (.int (mI M a x.toNatClampNeg) :: r) M else none := r_cnd (by decide +kernel : decode (mB 176) 745 = .ok (.iaload, 1)) rfl rfl
theorem t176_746 : rn 176 746 ls [.int x, .ref a] M = if mK M a = (10, 0) then cbn (cl 98 [.ref a, .int x] M) 176 749 ls [] else none := r_callV (kd := 0) (by decide +kernel : decode (mB 176) 746 = .ok (.invokevirtual 120, 3)) (by decide +kernel) ((doV_n np_98).trans rfl)
theorem t176_749 : rn 176 749 (a0 :: a1 :: some (.ref a) :: l) r M = rn 176 750 (a0 :: a1 :: some (.ref a) :: l) (.ref a :: r) M := r_aload_n (by decide +kernel : decode (mB 176) 749 = .ok (.aload_n 2, 1)) rfl
theorem t176_750 : rn 176 750 (some (.ref a) :: l) r M = rn 176 751 (some (.ref a) :: l) (.ref a :: r) M := r_aload_n (by decide +kernel : decode (mB 176) 750 = .ok (.aload_n 0, 1)) rfl
theorem t176_751 : rn 176 751 (a0 :: a1 :: a2 :: some (.int x) :: l) r M = rn 176 752 (a0 :: a1 :: a2 :: some (.int x) :: l) (.int x :: r) M := r_iload_n (by decide +kernel : decode (mB 176) 751 = .ok (.iload_n 3, 1)) rfl
theorem t176_752 : rn 176 752 ls r M = rn 176 753 ls (.int 1 :: r) M := r_nx (by decide +kernel : decode (mB 176) 752 = .ok (.iconst 1, 1)) rfl rfl
theorem t176_753 : rn 176 753 ls (.int y :: .int x :: r) M = rn 176 754 ls (.int (x + y) :: r) M := r_nx (by decide +kernel : decode (mB 176) 753 = .ok (.iadd, 1)) rfl rfl
theorem t176_754 : rn 176 754 ls (.int x :: .ref a :: r) M = if ((mK M a).1 = 1 ∨ (mK M a).1 = 5) ∧ inR x (mK M a).2 then rn 176 755 ls (.int (mI M a x.toNatClampNeg) :: r) M else none := r_cnd (by decide +kernel : decode (mB 176) 754 = .ok (.iaload, 1)) rfl rfl
theorem t176_755 : rn 176 755 ls [.int x, .ref a, .int y] M = if mK M a = (19, 0) then cbn (cl 175 [.ref a, .int x] M) 176 758 ls [.int y] else none := r_callV (kd := 0) (by decide +kernel : decode (mB 176) 755 = .ok (.invokevirtual 123, 3)) (by decide +kernel) ((doV_n np_175).trans rfl)
theorem t176_758 : rn 176 758 ls (.int y :: .int x :: r) M = if x = y then rn 176 763 ls r M else rn 176 761 ls r M := r_if (o := 5) (r := r) (c := x = y) (by decide +kernel : decode (mB 176) 758 = .ok (.if_icmp .eq 5, 3)) rfl (by decide) rfl
theorem t176_761 : rn 176 761 ls r M = rn 176 762 ls (.int 0 :: r) M := r_nx (by decide +kernel : decode (mB 176) 761 = .ok (.iconst 0, 1)) rfl rfl
theorem t176_762 : rn 176 762 ls [.int x] M = if x = 0 ∨ x = 1 then some (some (.int x), M) else none := r_zreturn (by decide +kernel : decode (mB 176) 762 = .ok (.ireturn, 1)) rfl
theorem t176_763 : rn 176 763 (a0 :: a1 :: a2 :: some (.int x) :: l) r M = rn 176 766 (a0 :: a1 :: a2 :: some (.int (x + 3)) :: l) r M := r_iinc (by decide +kernel : decode (mB 176) 763 = .ok (.iinc 3 3, 3)) rfl
theorem t176_766 : rn 176 766 ls r M = rn 176 18 ls r M := r_goto (o := (-748)) (by decide +kernel : decode (mB 176) 766 = .ok (.goto (-748), 3)) (by decide)
theorem t176_769 : rn 176 769 ls r M = rn 176 770 ls (.int 1 :: r) M := r_nx (by decide +kernel : decode (mB 176) 769 = .ok (.iconst 1, 1)) rfl rfl
theorem t176_770 : rn 176 770 ls [.int x] M = if x = 0 ∨ x = 1 then some (some (.int x), M) else none := r_zreturn (by decide +kernel : decode (mB 176) 770 = .ok (.ireturn, 1)) rfl
end S5
