/-! the law's comparison: rounds, files -/
theorem r_one {M N : SM} {S sb L n R r : Nat} (h : R9 M S sb L n R) (hF : Fq M N S) (hr : r < R) (jk8 jk9 jk10 jk11 jk12 jk13 jk14 jk15 jk16 jk17 jk18 jk19 jk20 jk21 jk22 jk23 : Option Value) : rn 69 428 [some (.ref S), some (.ref (S + 148)), some (.ref (S + 149)), some (.ref (S + 150)), some (.ref (S + 151)), some (.ref (S + 152)), some (.ref (S + 153)), some (.ref (S + 154)), jk8, jk9, jk10, jk11, jk12, jk13, some (.int (nI (wdN (mI M (S + 1 + 7 + 1)) n (r)))), some (.int (nI r)), jk16, jk17, jk18, jk19, jk20, jk21, jk22, jk23] [] N = rn 69 428 [some (.ref S), some (.ref (S + 148)), some (.ref (S + 149)), some (.ref (S + 150)), some (.ref (S + 151)), some (.ref (S + 152)), some (.ref (S + 153)), some (.ref (S + 154)), jk8, jk9, jk10, jk11, jk12, jk13, some (.int (nI (wdN (mI M (S + 1 + 7 + 1)) n (r + 1)))), some (.int (nI (r + 1))), some (.int (nI (cnt (fun e => decide (mI M (S + 1 + 7 + 1) e = nI r)) n))), some (.int (nI n)), jk18, jk19, jk20, jk21, jk22, jk23] [] N := by
  have n12 : n ≤ 12 := h.2.2.2.2.2.1
  obtain ⟨hb, hl, hlo, hrb, hrp, hrf, hrd, hwd, hti, hro⟩ := h.s
  have wlo : w12 (mJ M (S + 1 + 1) 1) := w12_of hlo n12
  obtain ⟨⟨kq, ke, kd, kt, ko, ky, kp⟩, ⟨Q0, Q1, Q2⟩, En, De, Tr, k0⟩ := h.n hF
  have one0 : ((1 : Int32) = 0) = False := by decide
  have z01 : ((0 : Int32) = 1) = False := by decide
  have lnk : ∀ x, x ≤ 12 → (nI n ≤ nI x) = (n ≤ x) := fun x hx => lE (by omega) (by omega)
  have hR : R ≤ 1000 := h.2.2.2.2.2.2.1
  have lp : ∀ j, j ≤ n → rn 69 442 [some (.ref S), some (.ref (S + 148)), some (.ref (S + 149)), some (.ref (S + 150)), some (.ref (S + 151)), some (.ref (S + 152)), some (.ref (S + 153)), some (.ref (S + 154)), jk8, jk9, jk10, jk11, jk12, jk13, some (.int (nI (wdN (mI M (S + 1 + 7 + 1)) n (r)))), some (.int (nI r)), some (.int (nI (cnt (fun e => decide (mI M (S + 1 + 7 + 1) e = nI r)) j))), some (.int (nI j)), jk18, jk19, jk20, jk21, jk22, jk23] [] N = rn 69 479 [some (.ref S), some (.ref (S + 148)), some (.ref (S + 149)), some (.ref (S + 150)), some (.ref (S + 151)), some (.ref (S + 152)), some (.ref (S + 153)), some (.ref (S + 154)), jk8, jk9, jk10, jk11, jk12, jk13, some (.int (nI (wdN (mI M (S + 1 + 7 + 1)) n (r)))), some (.int (nI r)), some (.int (nI (cnt (fun e => decide (mI M (S + 1 + 7 + 1) e = nI r)) n))), some (.int (nI n)), jk18, jk19, jk20, jk21, jk22, jk23] [] N := by
    refine loopB ?_ ?_
    · rw [t69_442]
      simp only [t69_444, t69_445, t69_446, t69_447, kq, true_or, i03, and_self, ↓reduceIte, z0, Q0, lnk n n12, Nat.le_refl]
    · intro j hj ih
      have hle : ¬ n ≤ j := by omega
      obtain ⟨r0, r1, r2, r3, r4⟩ := En j hj
      have i3 : inR (nI (5 * j + 3)) 60 = True := iT (by omega) (by decide)
      have c3 : (nI (5 * j + 3)).toNatClampNeg = 5 * j + 3 := cN (by omega)
      have hc : cnt (fun e => decide (mI M (S + 1 + 7 + 1) e = nI r)) (j + 1) = cnt (fun e => decide (mI M (S + 1 + 7 + 1) e = nI r)) j + if decide (mI M (S + 1 + 7 + 1) j = nI r) = true then 1 else 0 := rfl
      rw [t69_442]
      by_cases q : mI M (S + 1 + 7 + 1) j = nI r
      · rw [hc, if_pos (decide_eq_true q)] at ih
        simp only [t69_444, t69_445, t69_446, t69_447, t69_450, t69_452, t69_453, t69_454, t69_456, t69_457, t69_458, t69_459, t69_460, t69_462, t69_465, t69_466, t69_469, t69_470, t69_471, t69_473, t69_476, kq, ke, true_or, i03, i3, c3, and_self, ↓reduceIte, z0, Q0, lnk j (by omega), hle, x5, n3, r3, q, not_true_eq_false, n1]
        exact ih
      · rw [hc, if_neg (by simp [q])] at ih
        simp only [t69_444, t69_445, t69_446, t69_447, t69_450, t69_452, t69_453, t69_454, t69_456, t69_457, t69_458, t69_459, t69_460, t69_462, t69_465, t69_466, t69_469, t69_470, t69_471, t69_473, t69_476, kq, ke, true_or, i03, i3, c3, and_self, ↓reduceIte, z0, Q0, lnk j (by omega), hle, x5, n3, r3, q, not_false_eq_true, Int32.add_zero, n1]
        exact ih
  have h0 := lp 0 (Nat.zero_le _)
  have z : nI 0 = 0 := rfl
  rw [show cnt (fun e => decide (mI M (S + 1 + 7 + 1) e = nI r)) 0 = 0 from rfl, z] at h0
  have hlr : (nI R ≤ nI r) = (R ≤ r) := lE (by omega) (by omega)
  have hle : ¬ R ≤ r := by omega
  have w1 := wdN_le (mI M (S + 1 + 7 + 1)) n r
  have w2 := cnt_le (fun e => decide (mI M (S + 1 + 7 + 1) e = nI r)) n
  have hlc : (nI (cnt (fun e => decide (mI M (S + 1 + 7 + 1) e = nI r)) n) ≤ nI (wdN (mI M (S + 1 + 7 + 1)) n r)) = (cnt (fun e => decide (mI M (S + 1 + 7 + 1) e = nI r)) n ≤ wdN (mI M (S + 1 + 7 + 1)) n r) := lE (by omega) (by omega)
  have hw : wdN (mI M (S + 1 + 7 + 1)) n (r + 1) = max (wdN (mI M (S + 1 + 7 + 1)) n r) (cnt (fun e => decide (mI M (S + 1 + 7 + 1) e = nI r)) n) := rfl
  have hwn : nI (wdN (mI M (S + 1 + 7 + 1)) n (r + 1)) = if cnt (fun e => decide (mI M (S + 1 + 7 + 1) e = nI r)) n ≤ wdN (mI M (S + 1 + 7 + 1)) n r then nI (wdN (mI M (S + 1 + 7 + 1)) n r) else nI (cnt (fun e => decide (mI M (S + 1 + 7 + 1) e = nI r)) n) := by
    rw [hw]
    by_cases q : cnt (fun e => decide (mI M (S + 1 + 7 + 1) e = nI r)) n ≤ wdN (mI M (S + 1 + 7 + 1)) n r
    · rw [if_pos q, Nat.max_eq_left q]
    · rw [if_neg q, Nat.max_eq_right (by omega)]
  rw [hwn, t69_428]
  simp only [t69_430, t69_431, t69_432, t69_433, t69_436, t69_437, t69_439, t69_440, kq, true_or, i13, and_self, ↓reduceIte, z1, Q1, hlr, hle]
  rw [h0]
  by_cases q : cnt (fun e => decide (mI M (S + 1 + 7 + 1) e = nI r)) n ≤ wdN (mI M (S + 1 + 7 + 1)) n r
  · simp only [t69_479, t69_481, t69_483, t69_486, t69_488, t69_491, t69_493, t69_495, t69_498, hlc, q, ↓reduceIte, n1]
  · simp only [t69_479, t69_481, t69_483, t69_486, t69_488, t69_491, t69_493, t69_495, t69_498, hlc, q, ↓reduceIte, n1]
theorem r_all {M N : SM} {S sb L n R : Nat} (h : R9 M S sb L n R) (hF : Fq M N S) (jk8 jk9 jk10 jk11 jk12 jk13 jk14 jk15 jk16 jk17 jk18 jk19 jk20 jk21 jk22 jk23 : Option Value) : ∃ j16 j17, rn 69 422 [some (.ref S), some (.ref (S + 148)), some (.ref (S + 149)), some (.ref (S + 150)), some (.ref (S + 151)), some (.ref (S + 152)), some (.ref (S + 153)), some (.ref (S + 154)), jk8, jk9, jk10, jk11, jk12, jk13, jk14, jk15, jk16, jk17, jk18, jk19, jk20, jk21, jk22, jk23] [] N = rn 69 501 [some (.ref S), some (.ref (S + 148)), some (.ref (S + 149)), some (.ref (S + 150)), some (.ref (S + 151)), some (.ref (S + 152)), some (.ref (S + 153)), some (.ref (S + 154)), jk8, jk9, jk10, jk11, jk12, jk13, some (.int (nI (wdN (mI M (S + 1 + 7 + 1)) n (R)))), some (.int (nI R)), j16, j17, jk18, jk19, jk20, jk21, jk22, jk23] [] N := by
  have n12 : n ≤ 12 := h.2.2.2.2.2.1
  obtain ⟨hb, hl, hlo, hrb, hrp, hrf, hrd, hwd, hti, hro⟩ := h.s
  have wlo : w12 (mJ M (S + 1 + 1) 1) := w12_of hlo n12
  obtain ⟨⟨kq, ke, kd, kt, ko, ky, kp⟩, ⟨Q0, Q1, Q2⟩, En, De, Tr, k0⟩ := h.n hF
  have one0 : ((1 : Int32) = 0) = False := by decide
  have z01 : ((0 : Int32) = 1) = False := by decide
  have lnk : ∀ x, x ≤ 12 → (nI n ≤ nI x) = (n ≤ x) := fun x hx => lE (by omega) (by omega)
  have hR : R ≤ 1000 := h.2.2.2.2.2.2.1
  have lp : ∀ m r, m + r = R → ∀ x16 x17 : Option Value, ∃ j16 j17, rn 69 428 [some (.ref S), some (.ref (S + 148)), some (.ref (S + 149)), some (.ref (S + 150)), some (.ref (S + 151)), some (.ref (S + 152)), some (.ref (S + 153)), some (.ref (S + 154)), jk8, jk9, jk10, jk11, jk12, jk13, some (.int (nI (wdN (mI M (S + 1 + 7 + 1)) n (r)))), some (.int (nI r)), x16, x17, jk18, jk19, jk20, jk21, jk22, jk23] [] N = rn 69 501 [some (.ref S), some (.ref (S + 148)), some (.ref (S + 149)), some (.ref (S + 150)), some (.ref (S + 151)), some (.ref (S + 152)), some (.ref (S + 153)), some (.ref (S + 154)), jk8, jk9, jk10, jk11, jk12, jk13, some (.int (nI (wdN (mI M (S + 1 + 7 + 1)) n (R)))), some (.int (nI R)), j16, j17, jk18, jk19, jk20, jk21, jk22, jk23] [] N := by
    intro m
    induction m with
    | zero =>
      intro r hr x16 x17
      obtain rfl : r = R := by omega
      refine ⟨x16, x17, ?_⟩
      have hlr : (nI r ≤ nI r) = (r ≤ r) := lE (by omega) (by omega)
      rw [t69_428]
      simp only [t69_430, t69_431, t69_432, t69_433, kq, true_or, i13, and_self, ↓reduceIte, z1, Q1, hlr, Nat.le_refl]
    | succ m ih =>
      intro r hr x16 x17
      obtain ⟨j16, j17, g⟩ := ih (r + 1) (by omega) (some (.int (nI (cnt (fun e => decide (mI M (S + 1 + 7 + 1) e = nI r)) n)))) (some (.int (nI n)))
      refine ⟨j16, j17, ?_⟩
      rw [r_one h hF (show r < R by omega) _ _ _ _ _ _ none none _ _ _ _ _ _ _ _]
      exact g
  obtain ⟨j16, j17, g⟩ := lp R 0 (by omega) jk16 jk17
  refine ⟨j16, j17, ?_⟩
  have z : nI 0 = 0 := rfl
  rw [show wdN (mI M (S + 1 + 7 + 1)) n 0 = 0 from rfl, z] at g
  simp only [t69_422, t69_423, t69_425, t69_426]
  exact g
/-- chains come to an end: no file lies in itself -/
theorem lies_trm {D : Nat → Int32} {f : Nat} : ∀ (m : Nat) (a : Int32) (n : Nat), trm D n a → lies D m a (nI f) = true → ∃ n', n' ≤ n ∧ trm D n' (nI f) := by
  intro m
  induction m with
  | zero => intro a n _ h; cases h
  | succ m ih =>
    intro a n ht hl
    cases hF : isF a with
    | false => simp [lies, hF] at hl
    | true =>
      by_cases q : a = nI f
      · subst q; exact ⟨n, Nat.le_refl _, ht⟩
      · simp only [lies, hF, ↓reduceIte, q] at hl
        cases n with
        | zero => exact ht.elim
        | succ n1 =>
          rcases ht with rfl | ⟨-, h2⟩
          · rw [f6] at hF; cases hF
          · obtain ⟨n', x, y⟩ := ih _ n1 h2 hl
            exact ⟨n', by omega, y⟩
theorem lies_not {D : Nat → Int32} {f : Nat} (hf : f < 16) (m : Nat) : ∀ (n : Nat), trm D n (nI f) → lies D m (D f) (nI f) = true → False := by
  intro n
  induction n using Nat.strongRecOn with
  | _ n ih =>
    intro ht hl
    cases n with
    | zero => exact ht
    | succ n1 =>
      rcases ht with h | ⟨-, h2⟩
      · exact of_eq_false (nI_m6 hf) h
      · rw [nI_c (show f < 2147483648 by omega)] at h2
        obtain ⟨n', x, y⟩ := lies_trm m _ n1 h2 hl
        exact ih n' (by omega) y hl
theorem f_under {M N : SM} {S sb L n R f : Nat} (h : R9 M S sb L n R) (hF : Fq M N S) (hf : f < 6) (jk8 jk9 jk10 jk11 jk12 jk13 jk14 jk15 jk16 jk17 jk18 jk19 jk20 jk21 : Option Value) : ∀ (m : Nat) (a : Int32) (u : Bool), trm (mI M (S + 1 + 7 + 4)) (m + 1) a → (a = -6 ∨ ∃ j, j < 6 ∧ a = nI j ∧ ¬ mI M (S + 1 + 7 + 5) j = -6) →
    rn 69 589 [some (.ref S), some (.ref (S + 148)), some (.ref (S + 149)), some (.ref (S + 150)), some (.ref (S + 151)), some (.ref (S + 152)), some (.ref (S + 153)), some (.ref (S + 154)), jk8, jk9, jk10, jk11, jk12, jk13, jk14, jk15, some (.int (nI f)), jk17, jk18, jk19, jk20, jk21, some (.int (if u = true then 1 else 0)), some (.int (a))] [] N = rn 69 625 [some (.ref S), some (.ref (S + 148)), some (.ref (S + 149)), some (.ref (S + 150)), some (.ref (S + 151)), some (.ref (S + 152)), some (.ref (S + 153)), some (.ref (S + 154)), jk8, jk9, jk10, jk11, jk12, jk13, jk14, jk15, some (.int (nI f)), jk17, jk18, jk19, jk20, jk21, some (.int (if (u || lies (mI M (S + 1 + 7 + 4)) m a (nI f)) = true then 1 else 0)), some (.int (-6))] [] N := by
  have n12 : n ≤ 12 := h.2.2.2.2.2.1
  obtain ⟨hb, hl, hlo, hrb, hrp, hrf, hrd, hwd, hti, hro⟩ := h.s
  have wlo : w12 (mJ M (S + 1 + 1) 1) := w12_of hlo n12
  obtain ⟨⟨kq, ke, kd, kt, ko, ky, kp⟩, ⟨Q0, Q1, Q2⟩, En, De, Tr, k0⟩ := h.n hF
  have one0 : ((1 : Int32) = 0) = False := by decide
  have z01 : ((0 : Int32) = 1) = False := by decide
  have lnk : ∀ x, x ≤ 12 → (nI n ≤ nI x) = (n ≤ x) := fun x hx => lE (by omega) (by omega)
  have h6 : Six (mI M (S + 1 + 7 + 5)) := h.2.2.2.2.2.2.2.2.1
  have neg : ((-6 : Int32) < 0) = True := by decide
  intro m
  induction m with
  | zero =>
    intro a u ht _
    rcases ht with rfl | ⟨-, ht⟩
    · rw [t69_589]
      simp only [t69_591, neg, ↓reduceIte, lies, Bool.or_false]
    · exact ht.elim
  | succ m ih =>
    intro a u ht ha
    rcases ha with rfl | ⟨j, hj, rfl, hv⟩
    · rw [t69_589]
      simp only [t69_591, neg, ↓reduceIte, lies, f6, Bool.false_eq_true, Bool.or_false]
    · have h2 : trm (mI M (S + 1 + 7 + 4)) (m + 1) (mI M (S + 1 + 7 + 4) j) := by
        rcases ht with ht | ⟨-, ht⟩
        · exact absurd ht (of_eq_false (nI_m6 (by omega)))
        · rwa [cN (show j ≤ 1000000 by omega)] at ht
      have hd := dir_of hti h6 (show j < 16 by omega) hv
      obtain ⟨t1, -⟩ := Tr j hj
      rw [if_neg hv] at t1
      have i2 : inR (nI (2 * j)) 12 = True := iT (by omega) (by decide)
      have c2 : (nI (2 * j)).toNatClampNeg = 2 * j := cN (by omega)
      have lF : isF (nI j) = true := isF_n (by omega)
      have cj : (nI j).toNatClampNeg = j := cN (by omega)
      have absb : ∀ (b : Bool), (if (true || b) = true then (1 : Int32) else 0) = 1 := fun b => by rw [Bool.true_or]; rfl
      cases u with
      | true =>
        have ih := ih (mI M (S + 1 + 7 + 4) j) true h2 hd
        rw [absb] at ih ⊢
        rw [t69_589]
        simp only [t69_591, t69_594, t69_596, t69_599, t69_601, t69_603, t69_606, t69_607, t69_610, t69_611, t69_613, t69_615, t69_616, t69_618, t69_619, t69_620, t69_622, l0 (show j ≤ 1000000 by omega), ↓reduceIte, one0, not_false_eq_true, x2, kt, true_or, i2, c2, and_self, t1]
        exact ih
      | false =>
        by_cases q : j = f
        · subst q
          have ih := ih (mI M (S + 1 + 7 + 4) j) true h2 hd
          rw [absb] at ih
          rw [t69_589]
          simp only [t69_591, t69_594, t69_596, t69_599, t69_601, t69_603, t69_606, t69_607, t69_610, t69_611, t69_613, t69_615, t69_616, t69_618, t69_619, t69_620, t69_622, l0 (show j ≤ 1000000 by omega), Bool.false_eq_true, ↓reduceIte, not_true_eq_false, x2, kt, true_or, i2, c2, and_self, t1, lies, lF, Bool.or_true]
          exact ih
        · have qn : (nI j = nI f) = False := by rw [nI_inj (by omega) (by omega)]; exact eq_false q
          have ih := ih (mI M (S + 1 + 7 + 4) j) false h2 hd
          rw [t69_589]
          simp only [t69_591, t69_594, t69_596, t69_599, t69_601, t69_603, t69_606, t69_607, t69_610, t69_611, t69_613, t69_615, t69_616, t69_618, t69_619, t69_620, t69_622, l0 (show j ≤ 1000000 by omega), Bool.false_eq_true, ↓reduceIte, not_true_eq_false, not_false_eq_true, qn, x2, kt, true_or, i2, c2, and_self, t1, lies, lF, cj]
          simp only [Bool.false_eq_true, ↓reduceIte] at ih
          exact ih
theorem f_deep {M N : SM} {S sb L n R f : Nat} (h : R9 M S sb L n R) (hF : Fq M N S) (jk8 jk9 jk10 jk11 jk12 jk13 jk14 jk15 jk16 jk17 jk18 jk19 jk20 jk21 jk22 jk23 : Option Value) : ∀ (m : Nat) (a : Int32) (c : Nat), trm (mI M (S + 1 + 7 + 4)) (m + 1) a → (a = -6 ∨ ∃ j, j < 6 ∧ a = nI j ∧ ¬ mI M (S + 1 + 7 + 5) j = -6) →
    rn 69 650 [some (.ref S), some (.ref (S + 148)), some (.ref (S + 149)), some (.ref (S + 150)), some (.ref (S + 151)), some (.ref (S + 152)), some (.ref (S + 153)), some (.ref (S + 154)), jk8, jk9, jk10, jk11, jk12, jk13, jk14, jk15, some (.int (nI f)), some (.int (1)), jk18, jk19, some (.int (nI c - 1)), some (.int (a)), jk22, jk23] [] N = rn 69 675 [some (.ref S), some (.ref (S + 148)), some (.ref (S + 149)), some (.ref (S + 150)), some (.ref (S + 151)), some (.ref (S + 152)), some (.ref (S + 153)), some (.ref (S + 154)), jk8, jk9, jk10, jk11, jk12, jk13, jk14, jk15, some (.int (nI f)), some (.int (1)), jk18, jk19, some (.int (nI (c + upN (mI M (S + 1 + 7 + 4)) m a) - 1)), some (.int (-6)), jk22, jk23] [] N := by
  have n12 : n ≤ 12 := h.2.2.2.2.2.1
  obtain ⟨hb, hl, hlo, hrb, hrp, hrf, hrd, hwd, hti, hro⟩ := h.s
  have wlo : w12 (mJ M (S + 1 + 1) 1) := w12_of hlo n12
  obtain ⟨⟨kq, ke, kd, kt, ko, ky, kp⟩, ⟨Q0, Q1, Q2⟩, En, De, Tr, k0⟩ := h.n hF
  have one0 : ((1 : Int32) = 0) = False := by decide
  have z01 : ((0 : Int32) = 1) = False := by decide
  have lnk : ∀ x, x ≤ 12 → (nI n ≤ nI x) = (n ≤ x) := fun x hx => lE (by omega) (by omega)
  have h6 : Six (mI M (S + 1 + 7 + 5)) := h.2.2.2.2.2.2.2.2.1
  have neg : ((-6 : Int32) < 0) = True := by decide
  intro m
  induction m with
  | zero =>
    intro a c ht _
    rcases ht with rfl | ⟨-, ht⟩
    · rw [t69_650]
      simp only [t69_652, t69_655, t69_657, one0, neg, ↓reduceIte, upN, Nat.add_zero]
    · exact ht.elim
  | succ m ih =>
    intro a c ht ha
    rcases ha with rfl | ⟨j, hj, rfl, hv⟩
    · rw [t69_650]
      simp only [t69_652, t69_655, t69_657, one0, neg, ↓reduceIte, upN, f6, Bool.false_eq_true, Nat.add_zero]
    · have h2 : trm (mI M (S + 1 + 7 + 4)) (m + 1) (mI M (S + 1 + 7 + 4) j) := by
        rcases ht with ht | ⟨-, ht⟩
        · exact absurd ht (of_eq_false (nI_m6 (by omega)))
        · rwa [cN (show j ≤ 1000000 by omega)] at ht
      have hd := dir_of hti h6 (show j < 16 by omega) hv
      obtain ⟨t1, -⟩ := Tr j hj
      rw [if_neg hv] at t1
      have i2 : inR (nI (2 * j)) 12 = True := iT (by omega) (by decide)
      have c2 : (nI (2 * j)).toNatClampNeg = 2 * j := cN (by omega)
      have lF : isF (nI j) = true := isF_n (by omega)
      have cj : (nI j).toNatClampNeg = j := cN (by omega)
      have ih := ih (mI M (S + 1 + 7 + 4) j) (c + 1) h2 hd
      have ec : nI c - 1 + 1 = nI (c + 1) - 1 := by rw [nI_pred, Int32.sub_add_cancel]
      have eu : c + 1 + upN (mI M (S + 1 + 7 + 4)) m (mI M (S + 1 + 7 + 4) j) = c + (upN (mI M (S + 1 + 7 + 4)) m (mI M (S + 1 + 7 + 4) j) + 1) := by omega
      rw [eu] at ih
      rw [t69_650]
      simp only [t69_652, t69_655, t69_657, t69_660, t69_663, t69_665, t69_666, t69_668, t69_669, t69_670, t69_672, one0, l0 (show j ≤ 1000000 by omega), ↓reduceIte, ec, x2, kt, true_or, i2, c2, and_self, t1, upN, lF, cj]
      exact ih
