/-! the law's comparison: a file, all files -/
theorem f_k {M N : SM} {S sb L n R f : Nat} (h : R9 M S sb L n R) (hF : Fq M N S) (hf : f < 6) (jk8 jk9 jk10 jk11 jk12 jk13 jk14 jk15 jk16 jk17 jk18 jk19 jk20 jk21 : Option Value) : ∀ m k, m + k = 6 → 1 ≤ k → ∀ x22 x23 : Option Value, ∃ j22 j23, rn 69 545 [some (.ref S), some (.ref (S + 148)), some (.ref (S + 149)), some (.ref (S + 150)), some (.ref (S + 151)), some (.ref (S + 152)), some (.ref (S + 153)), some (.ref (S + 154)), jk8, jk9, jk10, jk11, jk12, jk13, jk14, jk15, some (.int (nI f)), jk17, some (.int (m32 (fun g => decide (mI M (S + 1 + 7 + 4) g = nI f)) k)), some (.int (nI (cnt (fun g => !decide (nI g = nI f) && lies (mI M (S + 1 + 7 + 4)) 16 (nI g) (nI f)) k))), jk20, some (.int (nI k)), x22, x23] [] N = rn 69 646 [some (.ref S), some (.ref (S + 148)), some (.ref (S + 149)), some (.ref (S + 150)), some (.ref (S + 151)), some (.ref (S + 152)), some (.ref (S + 153)), some (.ref (S + 154)), jk8, jk9, jk10, jk11, jk12, jk13, jk14, jk15, some (.int (nI f)), jk17, some (.int (m32 (fun g => decide (mI M (S + 1 + 7 + 4) g = nI f)) 6)), some (.int (nI (cnt (fun g => !decide (nI g = nI f) && lies (mI M (S + 1 + 7 + 4)) 16 (nI g) (nI f)) 6))), jk20, some (.int (nI 6)), j22, j23] [] N := by
  have n12 : n ≤ 12 := h.2.2.2.2.2.1
  obtain ⟨hb, hl, hlo, hrb, hrp, hrf, hrd, hwd, hti, hro⟩ := h.s
  have wlo : w12 (mJ M (S + 1 + 1) 1) := w12_of hlo n12
  obtain ⟨⟨kq, ke, kd, kt, ko, ky, kp⟩, ⟨Q0, Q1, Q2⟩, En, De, Tr, k0⟩ := h.n hF
  have one0 : ((1 : Int32) = 0) = False := by decide
  have z01 : ((0 : Int32) = 1) = False := by decide
  have lnk : ∀ x, x ≤ 12 → (nI n ≤ nI x) = (n ≤ x) := fun x hx => lE (by omega) (by omega)
  have h6 : Six (mI M (S + 1 + 7 + 5)) := h.2.2.2.2.2.2.2.2.1
  have le6 : ∀ k, k ≤ 6 → ((6 : Int32) ≤ nI k) = (6 ≤ k) := fun k hk => i_le (a := 6) (by decide) (by omega)
  have e9 : ((-9 : Int32) = nI f) = False := eq_false (fun h => of_eq_false (ne9 (j := f) (by omega)) h.symm)
  have e6 : ((-6 : Int32) = nI f) = False := eq_false (fun h => of_eq_false (nI_m6 (k := f) (by omega)) h.symm)
  have neg9 : ((-9 : Int32) < 0) = True := by decide
  intro m
  induction m with
  | zero =>
    intro k hk h1 x22 x23
    obtain rfl : k = 6 := by omega
    refine ⟨x22, x23, ?_⟩
    rw [t69_545]
    simp only [t69_547, t69_549, le6 6 (by omega), Nat.le_refl, ↓reduceIte]
  | succ m ih =>
    intro k hk h1 x22 x23
    have hk6 : k < 6 := by omega
    have hle : ¬ 6 ≤ k := by omega
    obtain ⟨t1, -⟩ := Tr k hk6
    have i2 : inR (nI (2 * k)) 12 = True := iT (by omega) (by decide)
    have c2 : (nI (2 * k)).toNatClampNeg = 2 * k := cN (by omega)
    have cs : cnt (fun g => !decide (nI g = nI f) && lies (mI M (S + 1 + 7 + 4)) 16 (nI g) (nI f)) (k + 1) = cnt (fun g => !decide (nI g = nI f) && lies (mI M (S + 1 + 7 + 4)) 16 (nI g) (nI f)) k + if (!decide (nI k = nI f) && lies (mI M (S + 1 + 7 + 4)) 16 (nI k) (nI f)) = true then 1 else 0 := rfl
    have ms := m32_S (fun g => decide (mI M (S + 1 + 7 + 4) g = nI f)) k
    by_cases hv : mI M (S + 1 + 7 + 5) k = -6
    · rw [if_pos hv] at t1
      have hD : mI M (S + 1 + 7 + 4) k = -6 := hti.2.2.1 k (by omega) hv
      have hp : (!decide (nI k = nI f) && lies (mI M (S + 1 + 7 + 4)) 16 (nI k) (nI f)) = false := by
        by_cases q : nI k = nI f
        · simp [q]
        · simp only [lies, isF_n (show k < 16 by omega), ↓reduceIte, q, cN (show k ≤ 1000000 by omega), hD, f6, Bool.false_eq_true, Bool.and_false]
      rw [hp, if_neg (by decide), Nat.add_zero] at cs
      rw [if_neg (by rw [decide_eq_true_eq, hD]; exact of_eq_false e6)] at ms
      obtain ⟨j22, j23, g⟩ := ih (k + 1) (by omega) (by omega) (some (.int 0)) (some (.int (-9)))
      rw [cs, ms] at g
      refine ⟨j22, j23, ?_⟩
      rw [t69_545]
      simp only [t69_547, t69_549, t69_552, t69_554, t69_556, t69_557, t69_559, t69_560, t69_561, t69_563, t69_566, t69_567, t69_569, t69_570, t69_573, t69_574, t69_575, t69_577, t69_578, t69_580, t69_582, t69_583, t69_585, t69_586, t69_587, le6 k (by omega), hle, ↓reduceIte, x2, kt, true_or, i2, c2, and_self, t1, e9, not_false_eq_true, Int32.or_zero]
      rw [t69_589]
      simp only [t69_591, t69_594, t69_596, t69_599, t69_601, t69_603, t69_606, t69_607, t69_610, t69_611, t69_613, t69_615, t69_616, t69_618, t69_619, t69_620, t69_622, t69_625, t69_627, t69_629, t69_632, t69_633, t69_636, t69_637, t69_638, t69_640, t69_643, neg9, ↓reduceIte, Int32.add_zero, n1]
      exact g
    · rw [if_neg hv] at t1
      have hd := dir_of hti h6 (show k < 16 by omega) hv
      have ht16 : trm (mI M (S + 1 + 7 + 4)) 16 (mI M (S + 1 + 7 + 4) k) := by
        rcases hti.2.2.2.2 k (by omega) with z | ⟨-, z⟩
        · exact absurd z (of_eq_false (nI_m6 (by omega)))
        · rwa [cN (show k ≤ 1000000 by omega)] at z
      have hp : (!decide (nI k = nI f) && lies (mI M (S + 1 + 7 + 4)) 16 (nI k) (nI f)) = lies (mI M (S + 1 + 7 + 4)) 15 (mI M (S + 1 + 7 + 4) k) (nI f) := by
        by_cases q : nI k = nI f
        · have qk : k = f := by rwa [nI_inj (by omega) (by omega)] at q
          subst qk
          rw [decide_eq_true rfl, Bool.not_true, Bool.false_and]
          cases hq : lies (mI M (S + 1 + 7 + 4)) 15 (mI M (S + 1 + 7 + 4) k) (nI k) with
          | false => rfl
          | true => exact (lies_not (by omega) 15 17 (hti.2.2.2.2 k (by omega)) hq).elim
        · rw [decide_eq_false q, Bool.not_false, Bool.true_and]
          simp only [lies, isF_n (show k < 16 by omega), ↓reduceIte, q, cN (show k ≤ 1000000 by omega)]
      rw [hp] at cs
      have hu : ∀ x18 x19 x21 : Option Value, rn 69 589 [some (.ref S), some (.ref (S + 148)), some (.ref (S + 149)), some (.ref (S + 150)), some (.ref (S + 151)), some (.ref (S + 152)), some (.ref (S + 153)), some (.ref (S + 154)), jk8, jk9, jk10, jk11, jk12, jk13, jk14, jk15, some (.int (nI f)), jk17, x18, x19, jk20, x21, some (.int (0)), some (.int (mI M (S + 1 + 7 + 4) k))] [] N = rn 69 625 [some (.ref S), some (.ref (S + 148)), some (.ref (S + 149)), some (.ref (S + 150)), some (.ref (S + 151)), some (.ref (S + 152)), some (.ref (S + 153)), some (.ref (S + 154)), jk8, jk9, jk10, jk11, jk12, jk13, jk14, jk15, some (.int (nI f)), jk17, x18, x19, jk20, x21, some (.int (if lies (mI M (S + 1 + 7 + 4)) 15 (mI M (S + 1 + 7 + 4) k) (nI f) = true then 1 else 0)), some (.int (-6))] [] N := by
        intro x18 x19 x21
        have z := f_under h hF hf jk8 jk9 jk10 jk11 jk12 jk13 jk14 jk15 none jk17 x18 x19 jk20 x21 15 (mI M (S + 1 + 7 + 4) k) false ht16 hd
        simpa only [Bool.false_eq_true, ↓reduceIte, Bool.false_or] using z
      cases hq : lies (mI M (S + 1 + 7 + 4)) 15 (mI M (S + 1 + 7 + 4) k) (nI f) with
      | true =>
        rw [hq, if_pos rfl] at cs
        simp only [hq, ↓reduceIte] at hu
        obtain ⟨j22, j23, g⟩ := ih (k + 1) (by omega) (by omega) (some (.int 1)) (some (.int (-6)))
        rw [cs, ms] at g
        refine ⟨j22, j23, ?_⟩
        by_cases qd : mI M (S + 1 + 7 + 4) k = nI f
        · rw [if_pos (decide_eq_true qd)] at g
          rw [t69_545]
          simp only [t69_547, t69_549, t69_552, t69_554, t69_556, t69_557, t69_559, t69_560, t69_561, t69_563, t69_566, t69_567, t69_569, t69_570, t69_573, t69_574, t69_575, t69_577, t69_578, t69_580, t69_582, t69_583, t69_585, t69_586, t69_587, le6 k (by omega), hle, ↓reduceIte, x2, kt, true_or, i2, c2, and_self, t1, qd, not_true_eq_false]
          rw [qd] at hu
          rw [hu]
          simp only [t69_625, t69_627, t69_629, t69_632, t69_633, t69_636, t69_637, t69_638, t69_640, t69_643, one0, ↓reduceIte, n1]
          exact g
        · rw [if_neg (by simp [qd])] at g
          rw [t69_545]
          simp only [t69_547, t69_549, t69_552, t69_554, t69_556, t69_557, t69_559, t69_560, t69_561, t69_563, t69_566, t69_567, t69_569, t69_570, t69_573, t69_574, t69_575, t69_577, t69_578, t69_580, t69_582, t69_583, t69_585, t69_586, t69_587, le6 k (by omega), hle, ↓reduceIte, x2, kt, true_or, i2, c2, and_self, t1, qd, not_false_eq_true, Int32.or_zero]
          rw [hu]
          simp only [t69_625, t69_627, t69_629, t69_632, t69_633, t69_636, t69_637, t69_638, t69_640, t69_643, one0, ↓reduceIte, n1]
          exact g
      | false =>
        rw [hq, if_neg (by decide), Nat.add_zero] at cs
        simp only [hq, Bool.false_eq_true, ↓reduceIte] at hu
        obtain ⟨j22, j23, g⟩ := ih (k + 1) (by omega) (by omega) (some (.int 0)) (some (.int (-6)))
        rw [cs, ms] at g
        refine ⟨j22, j23, ?_⟩
        by_cases qd : mI M (S + 1 + 7 + 4) k = nI f
        · rw [if_pos (decide_eq_true qd)] at g
          rw [t69_545]
          simp only [t69_547, t69_549, t69_552, t69_554, t69_556, t69_557, t69_559, t69_560, t69_561, t69_563, t69_566, t69_567, t69_569, t69_570, t69_573, t69_574, t69_575, t69_577, t69_578, t69_580, t69_582, t69_583, t69_585, t69_586, t69_587, le6 k (by omega), hle, ↓reduceIte, x2, kt, true_or, i2, c2, and_self, t1, qd, not_true_eq_false]
          rw [qd] at hu
          rw [hu]
          simp only [t69_625, t69_627, t69_629, t69_632, t69_633, t69_636, t69_637, t69_638, t69_640, t69_643, ↓reduceIte, Int32.add_zero, n1]
          exact g
        · rw [if_neg (by simp [qd])] at g
          rw [t69_545]
          simp only [t69_547, t69_549, t69_552, t69_554, t69_556, t69_557, t69_559, t69_560, t69_561, t69_563, t69_566, t69_567, t69_569, t69_570, t69_573, t69_574, t69_575, t69_577, t69_578, t69_580, t69_582, t69_583, t69_585, t69_586, t69_587, le6 k (by omega), hle, ↓reduceIte, x2, kt, true_or, i2, c2, and_self, t1, qd, not_false_eq_true, Int32.or_zero]
          rw [hu]
          simp only [t69_625, t69_627, t69_629, t69_632, t69_633, t69_636, t69_637, t69_638, t69_640, t69_643, ↓reduceIte, Int32.add_zero, n1]
          exact g
theorem f_one {M N : SM} {S sb L n R f : Nat} (h : R9 M S sb L n R) (hF : Fq M N S) (hf : f < 6) (jk8 jk9 jk10 jk11 jk12 jk13 jk14 jk15 jk16 jk17 jk18 jk19 jk20 jk21 jk22 jk23 : Option Value) : ∃ j17 j18 j19 j20 j21 j22 j23, rn 69 507 [some (.ref S), some (.ref (S + 148)), some (.ref (S + 149)), some (.ref (S + 150)), some (.ref (S + 151)), some (.ref (S + 152)), some (.ref (S + 153)), some (.ref (S + 154)), jk8, jk9, jk10, jk11, jk12, jk13, jk14, some (.int (nI (cnt (fun f => !decide (mI M (S + 1 + 7 + 5) f = -6)) f))), some (.int (nI f)), jk17, jk18, jk19, jk20, jk21, jk22, jk23] [] N = rn 69 507 [some (.ref S), some (.ref (S + 148)), some (.ref (S + 149)), some (.ref (S + 150)), some (.ref (S + 151)), some (.ref (S + 152)), some (.ref (S + 153)), some (.ref (S + 154)), jk8, jk9, jk10, jk11, jk12, jk13, jk14, some (.int (nI (cnt (fun f => !decide (mI M (S + 1 + 7 + 5) f = -6)) (f + 1)))), some (.int (nI (f + 1))), j17, j18, j19, j20, j21, j22, j23] [] N := by
  have n12 : n ≤ 12 := h.2.2.2.2.2.1
  obtain ⟨hb, hl, hlo, hrb, hrp, hrf, hrd, hwd, hti, hro⟩ := h.s
  have wlo : w12 (mJ M (S + 1 + 1) 1) := w12_of hlo n12
  obtain ⟨⟨kq, ke, kd, kt, ko, ky, kp⟩, ⟨Q0, Q1, Q2⟩, En, De, Tr, k0⟩ := h.n hF
  have one0 : ((1 : Int32) = 0) = False := by decide
  have z01 : ((0 : Int32) = 1) = False := by decide
  have lnk : ∀ x, x ≤ 12 → (nI n ≤ nI x) = (n ≤ x) := fun x hx => lE (by omega) (by omega)
  have h6 : Six (mI M (S + 1 + 7 + 5)) := h.2.2.2.2.2.2.2.2.1
  have le6 : ∀ k, k ≤ 6 → ((6 : Int32) ≤ nI k) = (6 ≤ k) := fun k hk => i_le (a := 6) (by decide) (by omega)
  have hle : ¬ 6 ≤ f := by omega
  have e6 : ((-6 : Int32) = nI f) = False := eq_false (fun h => of_eq_false (nI_m6 (k := f) (by omega)) h.symm)
  obtain ⟨t1, t2⟩ := Tr f hf
  have i2 : inR (nI (2 * f)) 12 = True := iT (by omega) (by decide)
  have c2 : (nI (2 * f)).toNatClampNeg = 2 * f := cN (by omega)
  have i21 : inR (nI (2 * f + 1)) 12 = True := iT (by omega) (by decide)
  have c21 : (nI (2 * f + 1)).toNatClampNeg = 2 * f + 1 := cN (by omega)
  have q0 := q_file0 h hF (show f < 16 by omega)
  have q1 := q_file1 h hF (show f < 16 by omega)
  have q2 := q_file2 h hF (show f < 16 by omega)
  have q3 := q_file3 h hF (show f < 16 by omega)
  have q4 := q_file4 h hF (show f < 16 by omega)
  have q5 := q_file5 h hF (show f < 16 by omega)
  have hin : m32 (fun g => decide (mI M (S + 1 + 7 + 4) g = nI f)) 16 = m32 (fun g => decide (mI M (S + 1 + 7 + 4) g = nI f)) 6 := by
    have z : ∀ g, 6 ≤ g → g < 16 → decide (mI M (S + 1 + 7 + 4) g = nI f) = false := fun g g1 g2 => by
      rw [hti.2.2.1 g g2 (h6 g g1 g2)]
      exact decide_eq_false (of_eq_false e6)
    have st : ∀ j, j ≤ 10 → m32 (fun g => decide (mI M (S + 1 + 7 + 4) g = nI f)) (6 + j) = m32 (fun g => decide (mI M (S + 1 + 7 + 4) g = nI f)) 6 := by
      intro j
      induction j with
      | zero => intro _; rfl
      | succ j ih =>
        intro hj
        rw [show 6 + (j + 1) = (6 + j) + 1 by omega, m32_S, if_neg (by rw [z (6 + j) (by omega) (by omega)]; decide)]
        exact ih (by omega)
    exact st 10 (by decide)
  have hal : cnt (fun g => !decide (nI g = nI f) && lies (mI M (S + 1 + 7 + 4)) 16 (nI g) (nI f)) 16 = cnt (fun g => !decide (nI g = nI f) && lies (mI M (S + 1 + 7 + 4)) 16 (nI g) (nI f)) 6 := cnt_more _ (by decide) (fun g g1 g2 => by
    by_cases q : nI g = nI f
    · simp [q]
    · simp only [lies, isF_n (show g < 16 by omega), ↓reduceIte, q, cN (show g ≤ 1000000 by omega), hti.2.2.1 g g2 (h6 g g1 g2), f6, Bool.false_eq_true, Bool.and_false])
  rw [hin] at q3
  rw [hal] at q5
  have p0 : m32 (fun g => decide (mI M (S + 1 + 7 + 4) g = nI f)) 1 = 0 := by
    rw [m32_S, if_neg (by rw [decide_eq_true_eq, hti.1]; exact of_eq_false e6)]
    rfl
  have a0 : cnt (fun g => !decide (nI g = nI f) && lies (mI M (S + 1 + 7 + 4)) 16 (nI g) (nI f)) 1 = 0 := by
    have z : (!decide (nI 0 = nI f) && lies (mI M (S + 1 + 7 + 4)) 16 (nI 0) (nI f)) = false := by
      by_cases q : nI 0 = nI f
      · simp [q]
      · simp only [lies, isF_n (show 0 < 16 by omega), ↓reduceIte, q, cN (show 0 ≤ 1000000 by omega), hti.1, f6, Bool.false_eq_true, Bool.and_false]
    show 0 + (if (!decide (nI 0 = nI f) && lies (mI M (S + 1 + 7 + 4)) 16 (nI 0) (nI f)) = true then 1 else 0) = 0
    rw [z]; rfl
  have cth : cnt (fun f => !decide (mI M (S + 1 + 7 + 5) f = -6)) (f + 1) = cnt (fun f => !decide (mI M (S + 1 + 7 + 5) f = -6)) f + if (!decide (mI M (S + 1 + 7 + 5) f = -6)) = true then 1 else 0 := rfl
  have zz : nI 0 = 0 := rfl
  have z1' : nI 1 = 1 := rfl
  by_cases hv : mI M (S + 1 + 7 + 5) f = -6
  · rw [if_pos hv] at t1 t2 q0 q4
    rw [decide_eq_true hv, Bool.not_true, if_neg (by decide)] at cth
    have cth : cnt (fun f => !decide (mI M (S + 1 + 7 + 5) f = -6)) (f + 1) = cnt (fun f => !decide (mI M (S + 1 + 7 + 5) f = -6)) f := cth
    have hD : mI M (S + 1 + 7 + 4) f = -6 := hti.2.2.1 f (by omega) hv
    rw [hD] at q1
    rw [hv] at q2
    obtain ⟨j22, j23, g⟩ := f_k h hF hf jk8 jk9 jk10 jk11 jk12 jk13 jk14 (some (.int (nI (cnt (fun f => !decide (mI M (S + 1 + 7 + 5) f = -6)) f)))) none (some (.int 0)) none none (some (.int (-1))) none 5 1 (by decide) (by decide) jk22 jk23
    rw [p0, a0, zz, z1'] at g
    refine ⟨some (.int 0), some (.int (m32 (fun g => decide (mI M (S + 1 + 7 + 4) g = nI f)) 6)), some (.int (nI (cnt (fun g => !decide (nI g = nI f) && lies (mI M (S + 1 + 7 + 4)) 16 (nI g) (nI f)) 6))), some (.int (-1)), some (.int (nI f)), j22, j23, ?_⟩
    rw [cth, t69_507]
    simp only [t69_509, t69_511, t69_514, t69_516, t69_517, t69_519, t69_520, t69_521, t69_523, t69_526, t69_527, t69_530, t69_531, t69_533, t69_534, t69_536, t69_537, t69_539, t69_540, t69_542, t69_543, le6 f (by omega), hle, ↓reduceIte, x2, kt, true_or, i2, c2, and_self, t1]
    rw [g]
    simp only [t69_646, t69_648]
    rw [t69_650]
    simp only [t69_652, t69_655, t69_657, t69_660, t69_663, t69_665, t69_666, t69_668, t69_669, t69_670, t69_672, t69_675, t69_677, t69_679, t69_682, t69_683, t69_686, t69_687, t69_688, t69_690, t69_691, t69_693, t69_694, t69_697, t69_699, t69_702, t69_703, t69_706, t69_707, t69_710, t69_711, t69_713, t69_714, t69_717, t69_719, t69_722, t69_724, t69_725, t69_727, t69_728, t69_729, t69_732, t69_734, t69_737, t69_738, t69_740, t69_741, t69_744, t69_746, t69_749, t69_751, t69_752, t69_754, t69_755, t69_756, t69_757, t69_758, t69_761, t69_763, t69_766, t69_767, t69_769, t69_770, t69_773, t69_775, t69_778, t69_779, t69_781, t69_782, t69_785, t69_787, t69_790, t69_792, t69_795, t69_797, t69_800, t69_801, t69_803, t69_804, t69_807, t69_809, t69_812, t69_813, t69_814, t69_817, ↓reduceIte, Int32.add_zero, k0, q0, q1, q2, q3, q4, q5, cbn_i, not_true_eq_false, n1]
  · rw [if_neg hv] at t1 t2 q0 q4
    rw [decide_eq_false hv, Bool.not_false, if_pos rfl] at cth
    have t19 : (mI N (S + 151) (2 * f) = -9) = False := by rw [t1]; exact dir9 hti h6 (by omega) hv
    obtain ⟨j22, j23, g⟩ := f_k h hF hf jk8 jk9 jk10 jk11 jk12 jk13 jk14 (some (.int (nI (cnt (fun f => !decide (mI M (S + 1 + 7 + 5) f = -6)) f)))) none (some (.int 1)) none none (some (.int (-1))) none 5 1 (by decide) (by decide) jk22 jk23
    rw [p0, a0, zz, z1'] at g
    have ht17 := hti.2.2.2.2 f (by omega)
    have ht16 : trm (mI M (S + 1 + 7 + 4)) 16 (mI M (S + 1 + 7 + 4) f) := by
      rcases ht17 with z | ⟨-, z⟩
      · exact absurd z (of_eq_false (nI_m6 (by omega)))
      · rwa [cN (show f ≤ 1000000 by omega)] at z
    have up16 : upN (mI M (S + 1 + 7 + 4)) 16 (nI f) = upN (mI M (S + 1 + 7 + 4)) 16 (mI M (S + 1 + 7 + 4) f) + 1 := by
      have e : upN (mI M (S + 1 + 7 + 4)) 16 (nI f) = upN (mI M (S + 1 + 7 + 4)) 15 (mI M (S + 1 + 7 + 4) f) + 1 := by
        show (if isF (nI f) = true then upN (mI M (S + 1 + 7 + 4)) 15 (mI M (S + 1 + 7 + 4) (nI f).toNatClampNeg) + 1 else 0) = _
        rw [if_pos (isF_n (by omega)), cN (show f ≤ 1000000 by omega)]
      rw [e, upN_st 15 _ ht16]
    have hde := f_deep (f := f) h hF jk8 jk9 jk10 jk11 jk12 jk13 jk14 (some (.int (nI (cnt (fun f => !decide (mI M (S + 1 + 7 + 5) f = -6)) f)))) none none (some (.int (m32 (fun g => decide (mI M (S + 1 + 7 + 4) g = nI f)) 6))) (some (.int (nI (cnt (fun g => !decide (nI g = nI f) && lies (mI M (S + 1 + 7 + 4)) 16 (nI g) (nI f)) 6)))) none none j22 j23 16 (nI f) 0 ht17 (Or.inr ⟨f, hf, rfl, hv⟩)
    have em1 : nI 0 - 1 = -1 := by decide
    rw [em1, Nat.zero_add, up16, nI_pred] at hde
    refine ⟨some (.int 1), some (.int (m32 (fun g => decide (mI M (S + 1 + 7 + 4) g = nI f)) 6)), some (.int (nI (cnt (fun g => !decide (nI g = nI f) && lies (mI M (S + 1 + 7 + 4)) 16 (nI g) (nI f)) 6))), some (.int (nI (upN (mI M (S + 1 + 7 + 4)) 16 (mI M (S + 1 + 7 + 4) f)))), some (.int (-6)), j22, j23, ?_⟩
    rw [cth, t69_507]
    simp only [t69_509, t69_511, t69_514, t69_516, t69_517, t69_519, t69_520, t69_521, t69_523, t69_526, t69_527, t69_530, t69_531, t69_533, t69_534, t69_536, t69_537, t69_539, t69_540, t69_542, t69_543, le6 f (by omega), hle, ↓reduceIte, x2, kt, true_or, i2, c2, and_self, t19]
    rw [g]
    simp only [t69_646, t69_648]
    rw [hde]
    simp only [t69_675, t69_677, t69_679, t69_682, t69_683, t69_686, t69_687, t69_688, t69_690, t69_691, t69_693, t69_694, t69_697, t69_699, t69_702, t69_703, t69_706, t69_707, t69_710, t69_711, t69_713, t69_714, t69_717, t69_719, t69_722, t69_724, t69_725, t69_727, t69_728, t69_729, t69_732, t69_734, t69_737, t69_738, t69_740, t69_741, t69_744, t69_746, t69_749, t69_751, t69_752, t69_754, t69_755, t69_756, t69_757, t69_758, t69_761, t69_763, t69_766, t69_767, t69_769, t69_770, t69_773, t69_775, t69_778, t69_779, t69_781, t69_782, t69_785, t69_787, t69_790, t69_792, t69_795, t69_797, t69_800, t69_801, t69_803, t69_804, t69_807, t69_809, t69_812, t69_813, t69_814, t69_817, ↓reduceIte, one0, k0, q0, q1, q2, q3, q4, q5, cbn_i, not_true_eq_false, x2, kt, true_or, i2, c2, i21, c21, and_self, t1, t2, n1]
theorem f_all {M N : SM} {S sb L n R : Nat} (h : R9 M S sb L n R) (hF : Fq M N S) (jk8 jk9 jk10 jk11 jk12 jk13 jk14 jk15 jk16 jk17 jk18 jk19 jk20 jk21 jk22 jk23 : Option Value) : ∃ j17 j18 j19 j20 j21 j22 j23, rn 69 501 [some (.ref S), some (.ref (S + 148)), some (.ref (S + 149)), some (.ref (S + 150)), some (.ref (S + 151)), some (.ref (S + 152)), some (.ref (S + 153)), some (.ref (S + 154)), jk8, jk9, jk10, jk11, jk12, jk13, jk14, jk15, jk16, jk17, jk18, jk19, jk20, jk21, jk22, jk23] [] N = rn 69 820 [some (.ref S), some (.ref (S + 148)), some (.ref (S + 149)), some (.ref (S + 150)), some (.ref (S + 151)), some (.ref (S + 152)), some (.ref (S + 153)), some (.ref (S + 154)), jk8, jk9, jk10, jk11, jk12, jk13, jk14, some (.int (nI (cnt (fun f => !decide (mI M (S + 1 + 7 + 5) f = -6)) 6))), some (.int (nI 6)), j17, j18, j19, j20, j21, j22, j23] [] N := by
  have le6 : ∀ k, k ≤ 6 → ((6 : Int32) ≤ nI k) = (6 ≤ k) := fun k hk => i_le (a := 6) (by decide) (by omega)
  have lp : ∀ m f, m + f = 6 → ∀ x17 x18 x19 x20 x21 x22 x23 : Option Value, ∃ j17 j18 j19 j20 j21 j22 j23, rn 69 507 [some (.ref S), some (.ref (S + 148)), some (.ref (S + 149)), some (.ref (S + 150)), some (.ref (S + 151)), some (.ref (S + 152)), some (.ref (S + 153)), some (.ref (S + 154)), jk8, jk9, jk10, jk11, jk12, jk13, jk14, some (.int (nI (cnt (fun f => !decide (mI M (S + 1 + 7 + 5) f = -6)) f))), some (.int (nI f)), x17, x18, x19, x20, x21, x22, x23] [] N = rn 69 820 [some (.ref S), some (.ref (S + 148)), some (.ref (S + 149)), some (.ref (S + 150)), some (.ref (S + 151)), some (.ref (S + 152)), some (.ref (S + 153)), some (.ref (S + 154)), jk8, jk9, jk10, jk11, jk12, jk13, jk14, some (.int (nI (cnt (fun f => !decide (mI M (S + 1 + 7 + 5) f = -6)) 6))), some (.int (nI 6)), j17, j18, j19, j20, j21, j22, j23] [] N := by
    intro m
    induction m with
    | zero =>
      intro f hf x17 x18 x19 x20 x21 x22 x23
      obtain rfl : f = 6 := by omega
      refine ⟨x17, x18, x19, x20, x21, x22, x23, ?_⟩
      rw [t69_507]
      simp only [t69_509, t69_511, le6 6 (by omega), Nat.le_refl, ↓reduceIte]
    | succ m ih =>
      intro f hf x17 x18 x19 x20 x21 x22 x23
      obtain ⟨y17, y18, y19, y20, y21, y22, y23, g⟩ := f_one h hF (show f < 6 by omega) jk8 jk9 jk10 jk11 jk12 jk13 jk14 none none x17 x18 x19 x20 x21 x22 x23
      obtain ⟨j17, j18, j19, j20, j21, j22, j23, g2⟩ := ih (f + 1) (by omega) y17 y18 y19 y20 y21 y22 y23
      exact ⟨j17, j18, j19, j20, j21, j22, j23, g.trans g2⟩
  obtain ⟨j17, j18, j19, j20, j21, j22, j23, g⟩ := lp 6 0 (by decide) jk17 jk18 jk19 jk20 jk21 jk22 jk23
  refine ⟨j17, j18, j19, j20, j21, j22, j23, ?_⟩
  have z : nI 0 = 0 := rfl
  rw [show cnt (fun f => !decide (mI M (S + 1 + 7 + 5) f = -6)) 0 = 0 from rfl, z] at g
  simp only [t69_501, t69_502, t69_504, t69_505]
  exact g
