/-! the law's comparison: all entries -/
theorem e_done {M N : SM} {S sb L n R k : Nat} (h : R9 M S sb L n R) (hF : Fq M N S) (hk : k < n) (jk8 jk9 jk10 jk11 jk12 jk13 jk14 jk15 jk16 jk17 jk18 jk19 jk20 jk21 jk22 jk23 : Option Value) : rn 69 314 [some (.ref S), some (.ref (S + 148)), some (.ref (S + 149)), some (.ref (S + 150)), some (.ref (S + 151)), some (.ref (S + 152)), some (.ref (S + 153)), some (.ref (S + 154)), some (.int (s32 (mJ M (S + 1 + 1) 1))), jk9, some (.int (m32 (fun e => !decide (mI M (S + 1 + 7 + 1) e < 0)) (k))), some (.int (m32 (fun e => !decide (mI M (S + 1 + 7 + 2) e ≤ 0)) (k))), some (.int ((wst (mJ M (S + 1 + 1) 1) (fun k => cnt (bt (orpB (mJ M (S + 1 + 1 + 5)) n (mJ M (S + 1 + 1) 1 ||| bE k))) 64) (k)).1)), some (.int (if (wst (mJ M (S + 1 + 1) 1) (fun k => cnt (bt (orpB (mJ M (S + 1 + 1 + 5)) n (mJ M (S + 1 + 1) 1 ||| bE k))) 64) (k)).1 = -6 then -1 else (wst (mJ M (S + 1 + 1) 1) (fun k => cnt (bt (orpB (mJ M (S + 1 + 1 + 5)) n (mJ M (S + 1 + 1) 1 ||| bE k))) 64) (k)).2)), some (.int (nI (k))), some (.int (nI (5 * k))), jk16, some (.int (if bt (mJ M (S + 1 + 1) 1) k = true then 1 else 0)), jk18, jk19, jk20, jk21, jk22, jk23] [] N = rn 69 336 [some (.ref S), some (.ref (S + 148)), some (.ref (S + 149)), some (.ref (S + 150)), some (.ref (S + 151)), some (.ref (S + 152)), some (.ref (S + 153)), some (.ref (S + 154)), some (.int (s32 (mJ M (S + 1 + 1) 1))), jk9, some (.int (m32 (fun e => !decide (mI M (S + 1 + 7 + 1) e < 0)) (k + 1))), some (.int (m32 (fun e => !decide (mI M (S + 1 + 7 + 2) e ≤ 0)) (k))), some (.int ((wst (mJ M (S + 1 + 1) 1) (fun k => cnt (bt (orpB (mJ M (S + 1 + 1 + 5)) n (mJ M (S + 1 + 1) 1 ||| bE k))) 64) (k)).1)), some (.int (if (wst (mJ M (S + 1 + 1) 1) (fun k => cnt (bt (orpB (mJ M (S + 1 + 1 + 5)) n (mJ M (S + 1 + 1) 1 ||| bE k))) 64) (k)).1 = -6 then -1 else (wst (mJ M (S + 1 + 1) 1) (fun k => cnt (bt (orpB (mJ M (S + 1 + 1 + 5)) n (mJ M (S + 1 + 1) 1 ||| bE k))) 64) (k)).2)), some (.int (nI (k))), some (.int (nI (5 * k))), jk16, some (.int (if bt (mJ M (S + 1 + 1) 1) k = true then 1 else 0)), jk18, jk19, jk20, jk21, jk22, jk23] [] N := by
  have n12 : n ≤ 12 := h.2.2.2.2.2.1
  obtain ⟨hb, hl, hlo, hrb, hrp, hrf, hrd, hwd, hti, hro⟩ := h.s
  have wlo : w12 (mJ M (S + 1 + 1) 1) := w12_of hlo n12
  obtain ⟨⟨kq, ke, kd, kt, ko, ky, kp⟩, ⟨Q0, Q1, Q2⟩, En, De, Tr, k0⟩ := h.n hF
  have one0 : ((1 : Int32) = 0) = False := by decide
  have z01 : ((0 : Int32) = 1) = False := by decide
  have lnk : ∀ x, x ≤ 12 → (nI n ≤ nI x) = (n ≤ x) := fun x hx => lE (by omega) (by omega)
  obtain ⟨r0, r1, r2, r3, r4⟩ := En k hk
  have i3 : inR (nI (5 * k + 3)) 60 = True := iT (by omega) (by decide)
  have c3 : (nI (5 * k + 3)).toNatClampNeg = 5 * k + 3 := cN (by omega)
  rw [m32_S]
  by_cases q : mI M (S + 1 + 7 + 1) k < 0
  · simp only [t69_314, t69_316, t69_317, t69_319, t69_320, t69_321, t69_322, t69_325, t69_326, t69_328, t69_329, t69_332, t69_333, t69_334, ke, true_or, i3, c3, and_self, ↓reduceIte, r3, n3, q, decide_true, Bool.not_true, Bool.false_eq_true, Int32.or_zero]
  · simp only [t69_314, t69_316, t69_317, t69_319, t69_320, t69_321, t69_322, t69_325, t69_326, t69_328, t69_329, t69_332, t69_333, t69_334, ke, true_or, i3, c3, and_self, ↓reduceIte, r3, n3, q, decide_false, Bool.not_false]
theorem e_refd {M N : SM} {S sb L n R k : Nat} (h : R9 M S sb L n R) (hF : Fq M N S) (hk : k < n) (jk8 jk9 jk10 jk11 jk12 jk13 jk14 jk15 jk16 jk17 jk18 jk19 jk20 jk21 jk22 jk23 : Option Value) : rn 69 336 [some (.ref S), some (.ref (S + 148)), some (.ref (S + 149)), some (.ref (S + 150)), some (.ref (S + 151)), some (.ref (S + 152)), some (.ref (S + 153)), some (.ref (S + 154)), some (.int (s32 (mJ M (S + 1 + 1) 1))), jk9, some (.int (m32 (fun e => !decide (mI M (S + 1 + 7 + 1) e < 0)) (k + 1))), some (.int (m32 (fun e => !decide (mI M (S + 1 + 7 + 2) e ≤ 0)) (k))), some (.int ((wst (mJ M (S + 1 + 1) 1) (fun k => cnt (bt (orpB (mJ M (S + 1 + 1 + 5)) n (mJ M (S + 1 + 1) 1 ||| bE k))) 64) (k)).1)), some (.int (if (wst (mJ M (S + 1 + 1) 1) (fun k => cnt (bt (orpB (mJ M (S + 1 + 1 + 5)) n (mJ M (S + 1 + 1) 1 ||| bE k))) 64) (k)).1 = -6 then -1 else (wst (mJ M (S + 1 + 1) 1) (fun k => cnt (bt (orpB (mJ M (S + 1 + 1 + 5)) n (mJ M (S + 1 + 1) 1 ||| bE k))) 64) (k)).2)), some (.int (nI (k))), some (.int (nI (5 * k))), jk16, some (.int (if bt (mJ M (S + 1 + 1) 1) k = true then 1 else 0)), jk18, jk19, jk20, jk21, jk22, jk23] [] N = rn 69 358 [some (.ref S), some (.ref (S + 148)), some (.ref (S + 149)), some (.ref (S + 150)), some (.ref (S + 151)), some (.ref (S + 152)), some (.ref (S + 153)), some (.ref (S + 154)), some (.int (s32 (mJ M (S + 1 + 1) 1))), jk9, some (.int (m32 (fun e => !decide (mI M (S + 1 + 7 + 1) e < 0)) (k + 1))), some (.int (m32 (fun e => !decide (mI M (S + 1 + 7 + 2) e ≤ 0)) (k + 1))), some (.int ((wst (mJ M (S + 1 + 1) 1) (fun k => cnt (bt (orpB (mJ M (S + 1 + 1 + 5)) n (mJ M (S + 1 + 1) 1 ||| bE k))) 64) (k)).1)), some (.int (if (wst (mJ M (S + 1 + 1) 1) (fun k => cnt (bt (orpB (mJ M (S + 1 + 1 + 5)) n (mJ M (S + 1 + 1) 1 ||| bE k))) 64) (k)).1 = -6 then -1 else (wst (mJ M (S + 1 + 1) 1) (fun k => cnt (bt (orpB (mJ M (S + 1 + 1 + 5)) n (mJ M (S + 1 + 1) 1 ||| bE k))) 64) (k)).2)), some (.int (nI (k))), some (.int (nI (5 * k))), jk16, some (.int (if bt (mJ M (S + 1 + 1) 1) k = true then 1 else 0)), jk18, jk19, jk20, jk21, jk22, jk23] [] N := by
  have n12 : n ≤ 12 := h.2.2.2.2.2.1
  obtain ⟨hb, hl, hlo, hrb, hrp, hrf, hrd, hwd, hti, hro⟩ := h.s
  have wlo : w12 (mJ M (S + 1 + 1) 1) := w12_of hlo n12
  obtain ⟨⟨kq, ke, kd, kt, ko, ky, kp⟩, ⟨Q0, Q1, Q2⟩, En, De, Tr, k0⟩ := h.n hF
  have one0 : ((1 : Int32) = 0) = False := by decide
  have z01 : ((0 : Int32) = 1) = False := by decide
  have lnk : ∀ x, x ≤ 12 → (nI n ≤ nI x) = (n ≤ x) := fun x hx => lE (by omega) (by omega)
  obtain ⟨r0, r1, r2, r3, r4⟩ := En k hk
  have i4 : inR (nI (5 * k + 4)) 60 = True := iT (by omega) (by decide)
  have c4 : (nI (5 * k + 4)).toNatClampNeg = 5 * k + 4 := cN (by omega)
  rw [m32_S (fun e => !decide (mI M (S + 1 + 7 + 2) e ≤ 0))]
  by_cases q : mI M (S + 1 + 7 + 2) k ≤ 0
  · simp only [t69_336, t69_338, t69_339, t69_341, t69_342, t69_343, t69_344, t69_347, t69_348, t69_350, t69_351, t69_354, t69_355, t69_356, ke, true_or, i4, c4, and_self, ↓reduceIte, r4, n4, q, decide_true, Bool.not_true, Bool.false_eq_true, Int32.or_zero]
  · simp only [t69_336, t69_338, t69_339, t69_341, t69_342, t69_343, t69_344, t69_347, t69_348, t69_350, t69_351, t69_354, t69_355, t69_356, ke, true_or, i4, c4, and_self, ↓reduceIte, r4, n4, q, decide_false, Bool.not_false]
theorem e_worst {M N : SM} {S sb L n R k : Nat} (h : R9 M S sb L n R) (hF : Fq M N S) (hk : k < n) (jk8 jk9 jk10 jk11 jk12 jk13 jk14 jk15 jk16 jk17 jk18 jk19 jk20 jk21 jk22 jk23 : Option Value) : ∃ j18, rn 69 358 [some (.ref S), some (.ref (S + 148)), some (.ref (S + 149)), some (.ref (S + 150)), some (.ref (S + 151)), some (.ref (S + 152)), some (.ref (S + 153)), some (.ref (S + 154)), some (.int (s32 (mJ M (S + 1 + 1) 1))), jk9, jk10, jk11, some (.int ((wst (mJ M (S + 1 + 1) 1) (fun k => cnt (bt (orpB (mJ M (S + 1 + 1 + 5)) n (mJ M (S + 1 + 1) 1 ||| bE k))) 64) (k)).1)), some (.int (if (wst (mJ M (S + 1 + 1) 1) (fun k => cnt (bt (orpB (mJ M (S + 1 + 1 + 5)) n (mJ M (S + 1 + 1) 1 ||| bE k))) 64) (k)).1 = -6 then -1 else (wst (mJ M (S + 1 + 1) 1) (fun k => cnt (bt (orpB (mJ M (S + 1 + 1 + 5)) n (mJ M (S + 1 + 1) 1 ||| bE k))) 64) (k)).2)), some (.int (nI k)), jk15, jk16, some (.int (if bt (mJ M (S + 1 + 1) 1) k = true then 1 else 0)), jk18, jk19, jk20, jk21, jk22, jk23] [] N = rn 69 30 [some (.ref S), some (.ref (S + 148)), some (.ref (S + 149)), some (.ref (S + 150)), some (.ref (S + 151)), some (.ref (S + 152)), some (.ref (S + 153)), some (.ref (S + 154)), some (.int (s32 (mJ M (S + 1 + 1) 1))), jk9, jk10, jk11, some (.int ((wst (mJ M (S + 1 + 1) 1) (fun k => cnt (bt (orpB (mJ M (S + 1 + 1 + 5)) n (mJ M (S + 1 + 1) 1 ||| bE k))) 64) (k + 1)).1)), some (.int (if (wst (mJ M (S + 1 + 1) 1) (fun k => cnt (bt (orpB (mJ M (S + 1 + 1 + 5)) n (mJ M (S + 1 + 1) 1 ||| bE k))) 64) (k + 1)).1 = -6 then -1 else (wst (mJ M (S + 1 + 1) 1) (fun k => cnt (bt (orpB (mJ M (S + 1 + 1 + 5)) n (mJ M (S + 1 + 1) 1 ||| bE k))) 64) (k + 1)).2)), some (.int (nI (k + 1))), jk15, jk16, some (.int (if bt (mJ M (S + 1 + 1) 1) k = true then 1 else 0)), j18, jk19, jk20, jk21, jk22, jk23] [] N := by
  have n12 : n ≤ 12 := h.2.2.2.2.2.1
  obtain ⟨hb, hl, hlo, hrb, hrp, hrf, hrd, hwd, hti, hro⟩ := h.s
  have wlo : w12 (mJ M (S + 1 + 1) 1) := w12_of hlo n12
  obtain ⟨⟨kq, ke, kd, kt, ko, ky, kp⟩, ⟨Q0, Q1, Q2⟩, En, De, Tr, k0⟩ := h.n hF
  have one0 : ((1 : Int32) = 0) = False := by decide
  have z01 : ((0 : Int32) = 1) = False := by decide
  have lnk : ∀ x, x ≤ 12 → (nI n ≤ nI x) = (n ≤ x) := fun x hx => lE (by omega) (by omega)
  have hws : wst (mJ M (S + 1 + 1) 1) (fun k => cnt (bt (orpB (mJ M (S + 1 + 1 + 5)) n (mJ M (S + 1 + 1) 1 ||| bE k))) 64) (k + 1) = if bt (mJ M (S + 1 + 1) 1) k = true then wst (mJ M (S + 1 + 1) 1) (fun k => cnt (bt (orpB (mJ M (S + 1 + 1 + 5)) n (mJ M (S + 1 + 1) 1 ||| bE k))) 64) k else if (wst (mJ M (S + 1 + 1) 1) (fun k => cnt (bt (orpB (mJ M (S + 1 + 1 + 5)) n (mJ M (S + 1 + 1) 1 ||| bE k))) 64) k).2 < nI ((fun k => cnt (bt (orpB (mJ M (S + 1 + 1 + 5)) n (mJ M (S + 1 + 1) 1 ||| bE k))) 64) k) then (nI k, nI ((fun k => cnt (bt (orpB (mJ M (S + 1 + 1 + 5)) n (mJ M (S + 1 + 1) 1 ||| bE k))) 64) k)) else wst (mJ M (S + 1 + 1) 1) (fun k => cnt (bt (orpB (mJ M (S + 1 + 1 + 5)) n (mJ M (S + 1 + 1) 1 ||| bE k))) 64) k := rfl
  have hor := wst_or (lost := mJ M (S + 1 + 1) 1) (c := (fun k => cnt (bt (orpB (mJ M (S + 1 + 1 + 5)) n (mJ M (S + 1 + 1) 1 ||| bE k))) 64)) (fun k => cnt_le _ _) k (by omega)
  have hc64 : (fun k => cnt (bt (orpB (mJ M (S + 1 + 1 + 5)) n (mJ M (S + 1 + 1) 1 ||| bE k))) 64) k ≤ 64 := cnt_le _ _
  obtain ⟨X, hX⟩ : ∃ X, X = wst (mJ M (S + 1 + 1) 1) (fun k => cnt (bt (orpB (mJ M (S + 1 + 1 + 5)) n (mJ M (S + 1 + 1) 1 ||| bE k))) 64) k := ⟨_, rfl⟩
  obtain ⟨Y, hY⟩ : ∃ Y, Y = wst (mJ M (S + 1 + 1) 1) (fun k => cnt (bt (orpB (mJ M (S + 1 + 1 + 5)) n (mJ M (S + 1 + 1) 1 ||| bE k))) 64) (k + 1) := ⟨_, rfl⟩
  rw [← hX, ← hY] at hws
  rw [← hX] at hor
  rw [← hX, ← hY]
  have he6 : ∀ j, j < 64 → (nI j = -6) = False := fun j hj => eq_false ((by decide +kernel : ∀ j, j < 64 → ¬ nI j = -6) j hj)
  have m66 : ((-6 : Int32) = -6) = True := by decide
  cases hx : bt (mJ M (S + 1 + 1) 1) k with
  | true =>
    rw [hx, if_pos rfl] at hws
    have m11 : ((-1 : Int32) ≤ -1) = True := by decide
    rcases hor with ho | ⟨j, d, j1, d1, ho⟩
    · refine ⟨some (.int (-1)), ?_⟩
      rw [hws, ho]
      simp only [t69_358, t69_360, t69_363, t69_364, t69_367, t69_369, t69_370, t69_372, t69_373, t69_374, t69_375, t69_376, t69_379, t69_382, t69_384, t69_386, t69_388, t69_391, t69_393, t69_396, t69_398, t69_400, t69_402, t69_404, t69_407, t69_409, t69_412, t69_414, t69_416, t69_419, ↓reduceIte, one0, m66, m11, n1]
    · have md : ((-1 : Int32) ≤ nI d) = True := eq_true ((by decide +kernel : ∀ d, d ≤ 64 → (-1 : Int32) ≤ nI d) d d1)
      refine ⟨some (.int (-1)), ?_⟩
      rw [hws, ho]
      simp only [t69_358, t69_360, t69_363, t69_364, t69_367, t69_369, t69_370, t69_372, t69_373, t69_374, t69_375, t69_376, t69_379, t69_382, t69_384, t69_386, t69_388, t69_391, t69_393, t69_396, t69_398, t69_400, t69_402, t69_404, t69_407, t69_409, t69_412, t69_414, t69_416, t69_419, ↓reduceIte, one0, he6 j j1, md, n1]
  | false =>
    rw [hx, if_neg (by decide)] at hws
    have hop := c_orphans3 kq kd n12 Q0 (w12_or wlo (w12_bE (show k < 12 by omega))) De hb hl
    have hbt := c_bits3 (orpB_w (g := mJ M (S + 1 + 1 + 5)) (x := mJ M (S + 1 + 1) 1 ||| bE k) n12) N
    have ek : s32 (mJ M (S + 1 + 1) 1) ||| e3 k = s32 (mJ M (S + 1 + 1) 1 ||| bE k) := by rw [e3_s (by omega), s32_or]
    obtain ⟨c, hc⟩ : ∃ c, c = (fun k => cnt (bt (orpB (mJ M (S + 1 + 1 + 5)) n (mJ M (S + 1 + 1) 1 ||| bE k))) 64) k := ⟨_, rfl⟩
    have hc' : cnt (bt (orpB (mJ M (S + 1 + 1 + 5)) n (mJ M (S + 1 + 1) 1 ||| bE k))) 64 = c := hc.symm
    rw [← hc] at hws hc64
    rw [hc'] at hbt
    refine ⟨some (.int (nI c)), ?_⟩
    rcases hor with ho | ⟨j, d, j1, d1, ho⟩
    · have m6 : ((-6 : Int32) < nI c) = True := eq_true ((by decide +kernel : ∀ d, d ≤ 64 → (-6 : Int32) < nI d) c hc64)
      have m1 : (nI c ≤ -1) = False := eq_false ((by decide +kernel : ∀ d, d ≤ 64 → ¬ nI d ≤ -1) c hc64)
      rw [ho] at hws
      simp only [m6, ↓reduceIte] at hws
      rw [hws, ho]
      simp only [t69_358, t69_360, t69_363, t69_364, t69_367, t69_369, t69_370, t69_372, t69_373, t69_374, t69_375, t69_376, t69_379, t69_382, t69_384, t69_386, t69_388, t69_391, t69_393, t69_396, t69_398, t69_400, t69_402, t69_404, t69_407, t69_409, t69_412, t69_414, t69_416, t69_419, Bool.false_eq_true, ↓reduceIte, m66, he6 k (by omega), ek, hop, hbt, cbn_i, m1, n1]
    · have ml : (nI d < nI c) = (d < c) := i_lt (by omega) (by omega)
      have mg : (nI c ≤ nI d) = (c ≤ d) := i_le (by omega) (by omega)
      rw [ho] at hws
      simp only [ml] at hws
      by_cases q : d < c
      · rw [if_pos q] at hws
        have q2 : ¬ c ≤ d := by omega
        rw [hws, ho]
        simp only [t69_358, t69_360, t69_363, t69_364, t69_367, t69_369, t69_370, t69_372, t69_373, t69_374, t69_375, t69_376, t69_379, t69_382, t69_384, t69_386, t69_388, t69_391, t69_393, t69_396, t69_398, t69_400, t69_402, t69_404, t69_407, t69_409, t69_412, t69_414, t69_416, t69_419, Bool.false_eq_true, ↓reduceIte, he6 j j1, he6 k (by omega), ek, hop, hbt, cbn_i, mg, q2, n1]
      · rw [if_neg q] at hws
        have q2 : c ≤ d := by omega
        rw [hws, ho]
        simp only [t69_358, t69_360, t69_363, t69_364, t69_367, t69_369, t69_370, t69_372, t69_373, t69_374, t69_375, t69_376, t69_379, t69_382, t69_384, t69_386, t69_388, t69_391, t69_393, t69_396, t69_398, t69_400, t69_402, t69_404, t69_407, t69_409, t69_412, t69_414, t69_416, t69_419, Bool.false_eq_true, ↓reduceIte, he6 j j1, ek, hop, hbt, cbn_i, mg, q2, n1]
theorem e_all {M : SM} {S sb L n R : Nat} (h : R9 M S sb L n R) : ∀ m k, m + k = n → ∀ N, Fq M N S → ∀ (jk15 jk16 jk17 jk18 jk19 jk20 jk21 jk22 jk23 : Option Value), ∃ N1 j15 j16 j17 j18, Fq M N1 S ∧ rn 69 30 [some (.ref S), some (.ref (S + 148)), some (.ref (S + 149)), some (.ref (S + 150)), some (.ref (S + 151)), some (.ref (S + 152)), some (.ref (S + 153)), some (.ref (S + 154)), some (.int (s32 (mJ M (S + 1 + 1) 1))), some (.int (s32 (orpB (mJ M (S + 1 + 1 + 5)) n (mJ M (S + 1 + 1) 1)))), some (.int (m32 (fun e => !decide (mI M (S + 1 + 7 + 1) e < 0)) (k))), some (.int (m32 (fun e => !decide (mI M (S + 1 + 7 + 2) e ≤ 0)) (k))), some (.int ((wst (mJ M (S + 1 + 1) 1) (fun k => cnt (bt (orpB (mJ M (S + 1 + 1 + 5)) n (mJ M (S + 1 + 1) 1 ||| bE k))) 64) (k)).1)), some (.int (if (wst (mJ M (S + 1 + 1) 1) (fun k => cnt (bt (orpB (mJ M (S + 1 + 1 + 5)) n (mJ M (S + 1 + 1) 1 ||| bE k))) 64) (k)).1 = -6 then -1 else (wst (mJ M (S + 1 + 1) 1) (fun k => cnt (bt (orpB (mJ M (S + 1 + 1 + 5)) n (mJ M (S + 1 + 1) 1 ||| bE k))) 64) (k)).2)), some (.int (nI (k))), jk15, jk16, jk17, jk18, jk19, jk20, jk21, jk22, jk23] [] N = rn 69 422 [some (.ref S), some (.ref (S + 148)), some (.ref (S + 149)), some (.ref (S + 150)), some (.ref (S + 151)), some (.ref (S + 152)), some (.ref (S + 153)), some (.ref (S + 154)), some (.int (s32 (mJ M (S + 1 + 1) 1))), some (.int (s32 (orpB (mJ M (S + 1 + 1 + 5)) n (mJ M (S + 1 + 1) 1)))), some (.int (m32 (fun e => !decide (mI M (S + 1 + 7 + 1) e < 0)) (n))), some (.int (m32 (fun e => !decide (mI M (S + 1 + 7 + 2) e ≤ 0)) (n))), some (.int ((wst (mJ M (S + 1 + 1) 1) (fun k => cnt (bt (orpB (mJ M (S + 1 + 1 + 5)) n (mJ M (S + 1 + 1) 1 ||| bE k))) 64) (n)).1)), some (.int (if (wst (mJ M (S + 1 + 1) 1) (fun k => cnt (bt (orpB (mJ M (S + 1 + 1 + 5)) n (mJ M (S + 1 + 1) 1 ||| bE k))) 64) (n)).1 = -6 then -1 else (wst (mJ M (S + 1 + 1) 1) (fun k => cnt (bt (orpB (mJ M (S + 1 + 1 + 5)) n (mJ M (S + 1 + 1) 1 ||| bE k))) 64) (n)).2)), some (.int (nI (n))), j15, j16, j17, j18, jk19, jk20, jk21, jk22, jk23] [] N1 := by
  intro m
  induction m with
  | zero =>
    intro k hk N hF jk15 jk16 jk17 jk18 jk19 jk20 jk21 jk22 jk23
    obtain rfl : k = n := by omega
    have n12 : k ≤ 12 := h.2.2.2.2.2.1
    obtain ⟨⟨kq, ke, kd, kt, ko, ky, kp⟩, ⟨Q0, Q1, Q2⟩, En, De, Tr, k0⟩ := h.n hF
    refine ⟨N, jk15, jk16, jk17, jk18, hF, ?_⟩
    rw [t69_30]
    simp only [t69_32, t69_33, t69_34, t69_35, kq, true_or, i03, and_self, ↓reduceIte, z0, Q0, lE (show k ≤ 1000000 by omega) (show k ≤ 1000000 by omega), Nat.le_refl]
  | succ m ih =>
    intro k hk N hF jk15 jk16 jk17 jk18 jk19 jk20 jk21 jk22 jk23
    have hkn : k < n := by omega
    obtain ⟨N1, hF1, g1⟩ := e_deep h hF hkn (some (.int (s32 (mJ M (S + 1 + 1) 1)))) (some (.int (s32 (orpB (mJ M (S + 1 + 1 + 5)) n (mJ M (S + 1 + 1) 1))))) (some (.int (m32 (fun e => !decide (mI M (S + 1 + 7 + 1) e < 0)) k))) (some (.int (m32 (fun e => !decide (mI M (S + 1 + 7 + 2) e ≤ 0)) k))) (some (.int (wst (mJ M (S + 1 + 1) 1) (fun k => cnt (bt (orpB (mJ M (S + 1 + 1 + 5)) n (mJ M (S + 1 + 1) 1 ||| bE k))) 64) (k)).1)) (some (.int (if (wst (mJ M (S + 1 + 1) 1) (fun k => cnt (bt (orpB (mJ M (S + 1 + 1 + 5)) n (mJ M (S + 1 + 1) 1 ||| bE k))) 64) (k)).1 = -6 then -1 else (wst (mJ M (S + 1 + 1) 1) (fun k => cnt (bt (orpB (mJ M (S + 1 + 1 + 5)) n (mJ M (S + 1 + 1) 1 ||| bE k))) 64) (k)).2))) (some (.int (nI k))) (some (.int (nI (5 * k)))) (some (.int (nI (cnt (fun j => bt (mJ M (S + 1 + 1 + 5) j) k) n)))) (some (.int (if bt (mJ M (S + 1 + 1) 1) k = true then 1 else 0))) (some (.int 3)) jk19 jk20 jk21 jk22 jk23
    obtain ⟨j18, g2⟩ := e_worst h hF1 hkn (some (.int (s32 (mJ M (S + 1 + 1) 1)))) (some (.int (s32 (orpB (mJ M (S + 1 + 1 + 5)) n (mJ M (S + 1 + 1) 1))))) (some (.int (m32 (fun e => !decide (mI M (S + 1 + 7 + 1) e < 0)) (k + 1)))) (some (.int (m32 (fun e => !decide (mI M (S + 1 + 7 + 2) e ≤ 0)) (k + 1)))) (some (.int 0)) (some (.int 0)) (some (.int 0)) (some (.int (nI (5 * k)))) (some (.int (nI (cnt (fun j => bt (mJ M (S + 1 + 1 + 5) j) k) n)))) (some (.int 0)) (some (.int 3)) jk19 jk20 jk21 jk22 jk23
    obtain ⟨N2, j15, j16, j17, j18', hF2, g3⟩ := ih (k + 1) (by omega) N1 hF1 (some (.int (nI (5 * k)))) (some (.int (nI (cnt (fun j => bt (mJ M (S + 1 + 1 + 5) j) k) n)))) (some (.int (if bt (mJ M (S + 1 + 1) 1) k = true then 1 else 0))) j18 jk19 jk20 jk21 jk22 jk23
    refine ⟨N2, j15, j16, j17, j18', hF2, ?_⟩
    rw [e_lean h hF hkn _ _ _ _ _ _ none _ _ _ _ _ _ _ _ _, e_three h hF hkn none _ _ _ _ _ none none _ none _ _ _ _ _ _, e_more h hF hkn _ none _ _ _ _ none none none none _ _ _ _ _ _, g1, e_done h hF1 hkn none _ none none none none none none _ none _ _ _ _ _ _, e_refd h hF1 hkn none _ none none none none none none _ none _ _ _ _ _ _, g2]
    exact g3
