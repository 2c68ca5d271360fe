/-! unlike, both sides -/
def uo (a b : Nat → Int32) : Nat → Int32
  | 0 => 0
  | k + 1 => if a k = b k then uo a b k else uo a b k ||| (1 <<< ((nI k / 3) &&& 31))
theorem div3 : ∀ k, k < 48 → nI k / 3 = nI (k / 3) := by decide +kernel
theorem uo_m32 {a b D1 V1 D2 V2 : Nat → Int32} (ha : ∀ f, f < 16 → a (3 * f) = (if V2 f = -6 then 0 else 1) ∧ a (3 * f + 1) = D2 f ∧ a (3 * f + 2) = V2 f) (hb : ∀ f, f < 16 → b (3 * f) = (if V1 f = -6 then 0 else 1) ∧ b (3 * f + 1) = D1 f ∧ b (3 * f + 2) = V1 f) : ∀ f, f ≤ 16 → uo a b (3 * f) = m32 (fun f => decide (¬ D1 f = D2 f ∨ ¬ V1 f = V2 f)) f := by
  intro f
  induction f with
  | zero => intro _; rfl
  | succ f ih =>
    intro hf
    have ih := ih (by omega)
    obtain ⟨a0, a1, a2⟩ := ha f (by omega)
    obtain ⟨b0, b1, b2⟩ := hb f (by omega)
    have d0 := div3 (3 * f) (by omega)
    have d1 := div3 (3 * f + 1) (by omega)
    have d2 := div3 (3 * f + 2) (by omega)
    rw [show 3 * f / 3 = f by omega] at d0
    rw [show (3 * f + 1) / 3 = f by omega] at d1
    rw [show (3 * f + 2) / 3 = f by omega] at d2
    have e : uo a b (3 * (f + 1)) = if a (3 * f + 2) = b (3 * f + 2) then uo a b (3 * f + 1 + 1) else uo a b (3 * f + 1 + 1) ||| (1 <<< ((nI (3 * f + 2) / 3) &&& 31)) := rfl
    have e1 : uo a b (3 * f + 1 + 1) = if a (3 * f + 1) = b (3 * f + 1) then uo a b (3 * f + 1) else uo a b (3 * f + 1) ||| (1 <<< ((nI (3 * f + 1) / 3) &&& 31)) := rfl
    have e0 : uo a b (3 * f + 1) = if a (3 * f) = b (3 * f) then uo a b (3 * f) else uo a b (3 * f) ||| (1 <<< ((nI (3 * f) / 3) &&& 31)) := rfl
    rw [e, e1, e0, ih, a0, a1, a2, b0, b1, b2, d0, d1, d2]
    have em : m32 (fun f => decide (¬ D1 f = D2 f ∨ ¬ V1 f = V2 f)) (f + 1) = if decide (¬ D1 f = D2 f ∨ ¬ V1 f = V2 f) = true then m32 (fun f => decide (¬ D1 f = D2 f ∨ ¬ V1 f = V2 f)) f ||| (1 <<< (nI f &&& 31)) else m32 (fun f => decide (¬ D1 f = D2 f ∨ ¬ V1 f = V2 f)) f := rfl
    rw [em]
    generalize m32 (fun f => decide (¬ D1 f = D2 f ∨ ¬ V1 f = V2 f)) f = x
    generalize (1 : Int32) <<< (nI f &&& 31) = y
    have oo : x ||| y ||| y = x ||| y := by rw [Int32.or_assoc, Int32.or_self]
    by_cases c1 : D1 f = D2 f <;> by_cases c2 : V1 f = V2 f
    · simp [c1, c2]
    · by_cases c3 : V2 f = -6 <;> by_cases c4 : V1 f = -6 <;> simp [c1, c2, c3, c4, oo, Ne.symm c2, Ne.symm, eq_comm]
      all_goals first | (rw [c3, c4] at c2; exact absurd rfl c2) | skip
    · simp [c1, c2, Ne.symm c1, eq_comm]
    · by_cases c3 : V2 f = -6 <;> by_cases c4 : V1 f = -6 <;> simp [c1, c2, c3, c4, oo, Ne.symm c1, Ne.symm c2, Ne.symm, eq_comm]
      all_goals first | (rw [c3, c4] at c2; exact absurd rfl c2) | skip
theorem p_unlike {M : SM} {S sb L B : Nat} {xs : Nat → Int32} (h : Rel M S sb L xs B) (hB : B + 100 < 2147483648) : PairI 72 160 [] M S sb L xs B := by
  obtain ⟨⟨K0, P0, P1, P2, P3, P4, P5, P6⟩, SN, ⟨KH, PH, KR, RG⟩, ⟨KL, SL⟩, ⟨KP, PP, KC⟩, ⟨KD, PD⟩, TQ, TW, MM, ⟨LO1, LO2, LO3, LO4⟩⟩ := id h.1.1
  obtain ⟨hX, n, R, hR, hN⟩ := id h
  have n40 := hN.1.2.1
  obtain ⟨q1, q2, q3, q4, q5⟩ := id SN
  have hw0 : mI M (S + 148 + 1) 0 = nI n := hN.1.2.2.1
  have hLm : LR M (S + 1 + 1) (mI M (S + 148 + 1)) n := hN.1
  have one0 : ((1 : Int32) = 0) = False := by decide
  have hin : inR 0 370 = True := eq_true (by decide)
  have z0 : (0 : Int32).toNatClampNeg = 0 := by decide
  -- the class
  obtain ⟨j, j1, j0, j2, j3, j4⟩ := c_try hX.1 hN
  obtain ⟨M1, hM1⟩ : ∃ M1, M1 = itR (rClr M (S + 111)) (S + 111) (S + 1 + 1) n j := ⟨_, rfl⟩
  rw [← hM1] at j3 j4
  have hcl := c_tClear (M := M1) (TW.st j4.1)
  obtain ⟨M2, hM2⟩ : ∃ M2, M2 = tClr M1 (S + 117) := ⟨_, rfl⟩
  rw [← hM2] at hcl
  have f2 : Fr M1 M2 (S + 117) (S + 120) := by
    rw [hM2]; exact ⟨rfl, fun b hb => ⟨by unfold tClr; rw [mI_sI, if_neg (by omega), mI_sI, if_neg (by omega)], rfl⟩⟩
  have e2 : M2.2.2 = M.2.2 := f2.1.trans j4.1
  have s2 : ∀ b, (b < S + 111 ∨ S + 120 ≤ b) → Same M M2 b := fun b hb => ⟨((f2.2 b (by omega)).1).trans (j4.2 b (by omega)).1, ((f2.2 b (by omega)).2).trans (j4.2 b (by omega)).2⟩
  have hS2 := hX.1.st e2
  have hL2 : LR M2 (S + 1 + 1) (mI M (S + 148 + 1)) n := LR_fr (LR_fr hLm j4 (by omega)) f2 (by omega)
  have hD2 : ∀ f, f < 16 → tD M2 (S + 117) f = -6 := fun f hf => by
    rw [hM2]; unfold tClr tD; rw [mI_sI, if_neg (by omega), mI_sI, if_pos rfl]; exact if_pos hf
  have hV0 : tV M2 (S + 117) 0 = 0 := by
    rw [hM2]; unfold tClr tV; rw [mI_sI, if_pos rfl, va_up_self]
  have hVf : ∀ f, 0 < f → f < 16 → tV M2 (S + 117) f = -6 := fun f h0 hf => by
    rw [hM2]; unfold tClr tV; rw [mI_sI, if_pos rfl, va_up_ne _ _ (by omega)]; exact if_pos hf
  have hcw := c_woLoop hS2 hL2 0 (Nat.zero_le _)
  rw [show ∀ K F A lost s0, woT K F A lost s0 0 = s0 from fun _ _ _ _ _ => rfl] at hcw
  dsimp only at hcw
  rw [tSet_self] at hcw
  -- names of the rows
  have rK : mI M2 (S + 1 + 1 + 1) = mI M (S + 1 + 1 + 1) := (s2 _ (by omega)).1
  have rF : mI M2 (S + 1 + 1 + 2) = mI M (S + 1 + 1 + 2) := (s2 _ (by omega)).1
  have rA : mI M2 (S + 1 + 1 + 3) = mI M (S + 1 + 1 + 3) := (s2 _ (by omega)).1
  have rL : mJ M2 (S + 1 + 1) = mJ M (S + 1 + 1) := (s2 _ (by omega)).2
  rw [rK, rF, rA, rL] at hcw
  obtain ⟨s0, hs0⟩ : ∃ s0, s0 = (tD M2 (S + 117), tV M2 (S + 117)) := ⟨_, rfl⟩
  rw [← hs0] at hcw
  obtain ⟨wn, hwn⟩ : ∃ wn, wn = woT (mI M (S + 1 + 1 + 1)) (mI M (S + 1 + 1 + 2)) (mI M (S + 1 + 1 + 3)) (mJ M (S + 1 + 1) 1) s0 n := ⟨_, rfl⟩
  rw [← hwn] at hcw
  obtain ⟨M3, hM3⟩ : ∃ M3, M3 = tSet M2 (S + 117) wn.1 wn.2 := ⟨_, rfl⟩
  rw [← hM3] at hcw
  have f3 : Fr M2 M3 (S + 117) (S + 120) := by rw [hM3]; exact Fr_tSet _ _ _ _
  have e3 : M3.2.2 = M.2.2 := f3.1.trans e2
  have s3 : ∀ b, (b < S + 111 ∨ S + 120 ≤ b) → Same M M3 b := fun b hb => ⟨((f3.2 b (by omega)).1).trans (s2 b hb).1, ((f3.2 b (by omega)).2).trans (s2 b hb).2⟩
  have hoth := c_other (M := M3) (t := S + 111 + 3) (u := S + 117) (TQ.2.2.2.2.2.2.st e3) (TW.st e3)
  have t1 : tD M3 (S + 111 + 3) = mI M1 (S + 111 + 4) := ((f3.2 (S + 111 + 4) (by omega)).1).trans (f2.2 (S + 111 + 4) (by omega)).1
  have t2 : tV M3 (S + 111 + 3) = mI M1 (S + 111 + 5) := ((f3.2 (S + 111 + 5) (by omega)).1).trans (f2.2 (S + 111 + 5) (by omega)).1
  have t3 : tD M3 (S + 117) = wn.1 := by rw [hM3, tSet_tD]
  have t4 : tV M3 (S + 117) = wn.2 := by rw [hM3, tSet_tV]
  rw [t1, t2, t3, t4] at hoth
  have hclass : cl 72 [.ref S] M = some (some (.int (m32 (fun f => decide (¬ mI M1 (S + 111 + 4) f = wn.1 f ∨ ¬ mI M1 (S + 111 + 5) f = wn.2 f)) 16)), M3) := by
    show rn 72 0 [some (.ref S), none, none] [] M = _
    have z : nI 0 = 0 := rfl
    rw [z] at hcw
    simp only [t72_0, t72_1, t72_4, t72_5, t72_8, t72_11, t72_12, t72_13, t72_16, t72_19, t72_20, K0, P0, P6, q1, q2, TW.1, va_rf_s, KK j4.1, PK j4.1, j3, hcl, cbn_v, ↓reduceIte]
    rw [hcw]
    simp only [t72_72, t72_73, t72_76, t72_79, t72_80, t72_83, t72_86, KK e3, PK e3, K0, P5, P6, TQ.1, TQ.2.2.2.1, TQ.2.2.2.2.2.2.1, va_rf_s, hoth, cbn_i, ↓reduceIte]
  -- the reference
  obtain ⟨w, hw⟩ : ∃ w, w = mI M (S + 148 + 1) := ⟨_, rfl⟩
  have w3 : mI M3 (S + 148 + 1) = w := by rw [hw]; exact (s3 _ (by omega)).1
  have mv1 := c_moves (M := M3) (a := S + 148 + 1) (b := S + 148 + 2) (la := 370) (lb := 370) (i := 0) (j := 0) (by rw [KK e3]; exact MM.2.2.2.2.2.2.2.2.2.2.1) (by rw [KK e3]; exact MM.2.2.2.2.2.2.2.2.2.2.2.1) (by omega) (by decide) (by decide) (by decide) (by decide)
  rw [w3, show nI 0 = 0 from rfl] at mv1
  obtain ⟨N1, hN1⟩ : ∃ N1, N1 = sI M3 (S + 148 + 2) (blk (mI M3 (S + 148 + 2)) 0 w 0 370) := ⟨_, rfl⟩
  rw [← hN1] at mv1
  have d1 : N1.2.2 = M.2.2 := by rw [hN1]; exact e3
  have m1 := MM.st d1
  have r1 : mI N1 (S + 148 + 1) = w := by rw [hN1, mI_sI, if_neg (by omega), w3]
  have k1 : ∀ x, x < 370 → mI N1 (S + 148 + 2) x = w x := fun x hx => by
    rw [hN1, mI_sI, if_pos rfl]; exact blk_in hx (by omega)
  obtain ⟨W, b1, b2, b3⟩ := c_emptyTree m1
  rw [r1] at b2
  have hLw : LRel (mI M (S + 1 + 1 + 1)) (mI M (S + 1 + 1 + 2)) (mI M (S + 1 + 1 + 3)) (mJ M (S + 1 + 1 + 4)) (mJ M (S + 1 + 1 + 5)) (mJ M (S + 1 + 1) 1) (mI N1 (S + 148 + 1)) n := by rw [r1, hw]; exact hLm.2
  have hT0 : TR W s0.1 s0.2 := by rw [hs0]; exact TR_e b3 hD2 hV0 hVf
  have hI0 : TI s0.1 s0.2 := by rw [hs0]; exact TI_e hD2 hV0 hVf
  obtain ⟨U, c1, c2, c3⟩ := c_mWoLoop m1 hLw none 0 (Nat.zero_le _) W (by rw [r1]; exact b2) hT0 hI0
  rw [← hwn] at c3
  rw [r1] at c2
  obtain ⟨N3, hN3⟩ : ∃ N3, N3 = sI N1 (S + 148 + 1) U := ⟨_, rfl⟩
  rw [← hN3] at c1
  have d3 : N3.2.2 = M.2.2 := by rw [hN3]; exact d1
  have m3 := MM.st d3
  have r3 : mI N3 (S + 148 + 1) = U := by rw [hN3, mI_sI, if_pos rfl]
  -- the copy of the tree
  have e48 : ∀ k, k ≤ 48 → ((48 : Int32) ≤ nI k) = (48 ≤ k) := fun k hk => i_le (a := 48) (by decide) (by omega)
  have c322 : ∀ k, (322 : Int32) + nI k = nI (322 + k) := fun k => nI_add 322 k
  have lpB : ∀ k, k ≤ 48 → rn 160 52 [some (.ref (S + 148)), some (.int (nI k)), none] [] (sI N3 (S + 148 + 9) (blk (mI N3 (S + 148 + 9)) 0 U 322 k)) = rn 160 80 [some (.ref (S + 148)), some (.int (nI 48)), none] [] (sI N3 (S + 148 + 9) (blk (mI N3 (S + 148 + 9)) 0 U 322 48)) := by
    refine loopB ?_ ?_
    · rw [t160_52]
      simp only [t160_53, t160_55, e48 48 (Nat.le_refl _), Nat.le_refl, ↓reduceIte]
    · intro k hk ih
      have i1 : inR (nI k) 48 = True := i_inT hk (by decide)
      have i2 : inR (nI (322 + k)) 370 = True := i_inT (by omega) (by decide)
      have hup := blk_up (mI N3 (S + 148 + 9)) 0 U 322 k
      rw [Nat.zero_add] at hup
      rw [t160_52]
      simp only [t160_53, t160_55, t160_58, t160_59, t160_62, t160_63, t160_64, t160_67, t160_70, t160_71, t160_72, t160_73, t160_74, t160_77, e48 k (by omega), show ¬ 48 ≤ k by omega, mK_sI, mP_sI, m3.1, m3.2.1, m3.2.2.2.2.2.2.2.2.2.1, m3.2.2.2.2.2.2.2.2.2.2.1, m3.2.2.2.2.2.2.2.2.2.2.2.2.2.2.2.2.2.2, va_rf_s, mI_sI, r3, show ¬ S + 148 + 1 = S + 148 + 9 by omega, c322, i1, i2, true_or, and_self, nI_c (show k < 2147483648 by omega), nI_c (show 322 + k < 2147483648 by omega), sI_sI, hup, n1, ↓reduceIte]
      exact ih
  have lB0 := lpB 0 (by decide)
  rw [blk_0, sI_self] at lB0
  obtain ⟨N4, hN4⟩ : ∃ N4, N4 = sI N3 (S + 148 + 9) (blk (mI N3 (S + 148 + 9)) 0 U 322 48) := ⟨_, rfl⟩
  rw [← hN4] at lB0
  have d4 : N4.2.2 = M.2.2 := by rw [hN4]; exact d3
  have m4 := MM.st d4
  have r4 : mI N4 (S + 148 + 1) = U := by rw [hN4, mI_sI, if_neg (by omega), r3]
  -- begun anew, replayed
  have U0 : U 0 = nI n := (c2 0 (by decide)).trans (by rw [hw]; exact hw0)
  obtain ⟨W2, g1, g2, g3, g4, g5⟩ := c_beginsAnew (n := n) m4 (by rw [r4]; exact U0) n40
  rw [r4] at g4
  obtain ⟨N5, hN5⟩ : ∃ N5, N5 = sI N4 (S + 148 + 1) W2 := ⟨_, rfl⟩
  rw [← hN5] at g1
  have d5 : N5.2.2 = M.2.2 := by rw [hN5]; exact d4
  have m5 := MM.st d5
  have r5 : mI N5 (S + 148 + 1) = W2 := by rw [hN5, mI_sI, if_pos rfl]
  have hLW2 : LR (rClr M (S + 111)) (S + 1 + 1) W2 n := by
    have : LR M (S + 1 + 1) W2 n := ⟨hLm.1, LR_keep (w := w) (by rw [hw]; exact hLm.2) ((g4 0 (by decide) (by decide) (fun e he => ⟨by omega, by omega⟩)).trans (c2 0 (by decide))) (fun e he p hp p4 p5 => (g4 _ (by omega) (by omega) (fun e' he' => ⟨by omega, by omega⟩)).trans (c2 _ (by omega)))⟩
    exact LR_fr this (Fr_rClr _ _) (by omega)
  have hRW2 : RR (rClr M (S + 111)) (S + 111) W2 n 0 := RR_clr n40 g2 g3 g5
  obtain ⟨W3, x1, x2, x3⟩ := c_replays (m := S + 148) (r := S + 111) (h := S + 1 + 1) (n := n) (by omega) (C := rClr M (S + 111)) j (M := N5) (i := 0) (j := j) (R := 0) (by omega) m5 (by rw [r5]; exact hLW2) (by rw [r5]; exact hRW2) (by omega) j0 j2
  obtain ⟨N6, hN6⟩ : ∃ N6, N6 = sI N5 (S + 148 + 1) W3 := ⟨_, rfl⟩
  rw [← hN6] at x1
  have d6 : N6.2.2 = M.2.2 := by rw [hN6]; exact d5
  have m6 := MM.st d6
  have r6 : mI N6 (S + 148 + 1) = W3 := by rw [hN6, mI_sI, if_pos rfl]
  have r69 : mI N6 (S + 148 + 9) = blk (mI N3 (S + 148 + 9)) 0 U 322 48 := by
    rw [hN6, mI_sI, if_neg (by omega), hN5, mI_sI, if_neg (by omega), hN4, mI_sI, if_pos rfl]
  have x4 : cl 145 [.ref (S + 148)] N5 = some (some (.int (nI j)), N6) := by
    show rn 145 0 [some (.ref (S + 148)), none] [] N5 = _
    simp only [t145_0, t145_1, t145_3, t145_6, t145_7, t145_8, t145_11, t145_12, t145_15, t145_16, t145_19, t145_22, t145_23]
    exact x1
  -- the comparison
  have hab : ∀ k, k < 48 → mI N6 (S + 148 + 9) k = U (322 + k) := fun k hk => by
    rw [r69]
    have := blk_at (f := mI N3 (S + 148 + 9)) (g := U) (j := 0) (i := 322) (n := 48) hk
    rw [Nat.zero_add] at this
    exact this
  have three0 : ((3 : Int32) = 0) = False := by decide
  obtain ⟨ua, hua⟩ : ∃ ua, ua = fun k => U (322 + k) := ⟨_, rfl⟩
  obtain ⟨ub, hub⟩ : ∃ ub, ub = fun k => W3 (322 + k) := ⟨_, rfl⟩
  have hab : ∀ k, k < 48 → mI N6 (S + 148 + 9) k = ua k := fun k hk => by rw [hua]; exact hab k hk
  have hbb : ∀ k, W3 (322 + k) = ub k := fun k => by rw [hub]
  have lpC : ∀ k, k ≤ 48 → rn 160 93 [some (.ref (S + 148)), some (.int (uo ua ub k)), some (.int (nI k))] [] N6 = rn 160 136 [some (.ref (S + 148)), some (.int (uo ua ub 48)), some (.int (nI 48))] [] N6 := by
    refine loopB ?_ ?_
    · rw [t160_93]
      simp only [t160_94, t160_96, e48 48 (Nat.le_refl _), Nat.le_refl, ↓reduceIte]
    · intro k hk ih
      have i1 : inR (nI k) 48 = True := i_inT hk (by decide)
      have i2 : inR (nI (322 + k)) 370 = True := i_inT (by omega) (by decide)
      have hs : uo ua ub (k + 1) = if ua k = ub k then uo ua ub k else uo ua ub k ||| (1 <<< ((nI k / 3) &&& 31)) := rfl
      rw [t160_93]
      by_cases q : ua k = ub k
      · rw [hs, if_pos q] at ih
        simp only [t160_94, t160_96, t160_99, t160_100, t160_101, t160_104, t160_105, t160_106, t160_107, t160_110, t160_113, t160_114, t160_115, t160_116, t160_119, t160_120, t160_128, t160_129, t160_130, t160_133, e48 k (by omega), show ¬ 48 ≤ k by omega, m6.1, m6.2.1, m6.2.2.2.2.2.2.2.2.2.1, m6.2.2.2.2.2.2.2.2.2.2.1, m6.2.2.2.2.2.2.2.2.2.2.2.2.2.2.2.2.2.2, va_rf_s, r6, hab k hk, hbb, c322, i1, i2, true_or, and_self, nI_c (show k < 2147483648 by omega), nI_c (show 322 + k < 2147483648 by omega), q, not_true_eq_false, Int32.or_zero, n1, ↓reduceIte]
        exact ih
      · rw [hs, if_neg q] at ih
        simp only [t160_94, t160_96, t160_99, t160_100, t160_101, t160_104, t160_105, t160_106, t160_107, t160_110, t160_113, t160_114, t160_115, t160_116, t160_123, t160_124, t160_125, t160_126 (show ¬ (3 : Int32) = 0 by decide), t160_127, t160_128, t160_129, t160_130, t160_133, e48 k (by omega), show ¬ 48 ≤ k by omega, m6.1, m6.2.1, m6.2.2.2.2.2.2.2.2.2.1, m6.2.2.2.2.2.2.2.2.2.2.1, m6.2.2.2.2.2.2.2.2.2.2.2.2.2.2.2.2.2.2, va_rf_s, r6, hab k hk, hbb, c322, i1, i2, true_or, and_self, nI_c (show k < 2147483648 by omega), nI_c (show 322 + k < 2147483648 by omega), q, not_false_eq_true, n1, ↓reduceIte]
        exact ih
  have lC0 := lpC 0 (by decide)
  have mv2 := c_moves (M := N6) (a := S + 148 + 2) (b := S + 148 + 1) (la := 370) (lb := 370) (i := 0) (j := 0) m6.2.2.2.2.2.2.2.2.2.2.2.1 m6.2.2.2.2.2.2.2.2.2.2.1 (by omega) (by decide) (by decide) (by decide) (by decide)
  rw [r6, show nI 0 = 0 from rfl] at mv2
  obtain ⟨N7, hN7⟩ : ∃ N7, N7 = sI N6 (S + 148 + 1) (blk W3 0 (mI N6 (S + 148 + 2)) 0 370) := ⟨_, rfl⟩
  rw [← hN7] at mv2
  have d7 : N7.2.2 = M.2.2 := by rw [hN7]; exact d6
  have r62 : mI N6 (S + 148 + 2) = mI N1 (S + 148 + 2) := by
    rw [hN6, mI_sI, if_neg (by omega), hN5, mI_sI, if_neg (by omega), hN4, mI_sI, if_neg (by omega), hN3, mI_sI, if_neg (by omega)]
  have r7 : ∀ x, x < 370 → mI N7 (S + 149) x = w x := fun x hx => by
    rw [hN7, show S + 149 = S + 148 + 1 from rfl, mI_sI, if_pos rfl, r62]
    exact (blk_in hx (by omega)).trans (k1 x hx)
  have hfin : uo ua ub 48 = m32 (fun f => decide (¬ mI M1 (S + 111 + 4) f = wn.1 f ∨ ¬ mI M1 (S + 111 + 5) f = wn.2 f)) 16 := by
    refine uo_m32 (D1 := mI M1 (S + 111 + 4)) (V1 := mI M1 (S + 111 + 5)) (D2 := wn.1) (V2 := wn.2) (fun f hf => ?_) (fun f hf => ?_) 16 (Nat.le_refl _)
    · have := c3 f hf
      rw [hua]
      exact ⟨this.1, this.2.1, this.2.2⟩
    · have := x3.2.2.2.2.2.2.2.2.1 f hf
      rw [← hM1] at this
      rw [hub]
      exact ⟨this.1, this.2.1, this.2.2⟩
  have href : cl 160 [.ref (S + 148)] M3 = some (some (.int (uo ua ub 48)), N7) := by
    show rn 160 0 [some (.ref (S + 148)), none, none] [] M3 = _
    have z : nI 0 = 0 := rfl
    rw [z] at c1 lB0 lC0
    rw [show uo ua ub 0 = 0 from rfl] at lC0
    simp only [t160_0, t160_1, t160_4, t160_5, t160_6, t160_9, t160_10, t160_13, t160_14, t160_17, t160_18, KK e3, PK e3, KK d1, PK d1, MM.1, MM.2.1, MM.2.2.1, va_rf_s, mv1, b1, cbn_v, ↓reduceIte]
    rw [c1]
    simp only [t160_50, t160_51]
    rw [lB0]
    simp only [t160_80, t160_81, t160_84, t160_85, t160_88, t160_89, t160_90, t160_91, t160_92, m4.1, m5.1, g1, x4, cbn_v, cbn_i, ↓reduceIte]
    rw [lC0]
    simp only [t160_136, t160_137, t160_140, t160_141, t160_142, t160_145, t160_146, t160_149, t160_150, m6.1, m6.2.1, m6.2.2.1, va_rf_s, mv2, cbn_v, ↓reduceIte]
  refine ⟨_, M3, N7, ⟨e3, fun b hb => (s3 b (by omega)).1⟩, hclass, by rw [href, hfin], ?_⟩
  have s7 : ∀ b, b ≠ S + 148 + 1 → b ≠ S + 148 + 2 → b ≠ S + 148 + 9 → Same M3 N7 b := fun b h1 h2 h9 => by
    refine ⟨?_, ?_⟩
    · rw [hN7, mI_sI, if_neg h1, hN6, mI_sI, if_neg h1, hN5, mI_sI, if_neg h1, hN4, mI_sI, if_neg h9, hN3, mI_sI, if_neg h1, hN1, mI_sI, if_neg h2]
    · rw [hN7, hN6, hN5, hN4, hN3, hN1]; rfl
  have hF : XF M N7 S := by
    refine ⟨d7, fun b hb => ?_, ?_, ?_⟩
    · have x := s7 b (by omega) (by omega) (by omega)
      have y := s3 b (by omega)
      exact ⟨x.1.trans y.1, x.2.trans y.2⟩
    · rw [(s7 (S + 148) (by omega) (by omega) (by omega)).1, (s3 (S + 148) (by omega)).1]
    · rw [(s7 (S + 148) (by omega) (by omega) (by omega)).1, (s3 (S + 148) (by omega)).1]
  refine ⟨hX.xf hF, n, R, hR, ?_⟩
  refine SR_w (SR_eq hN (fun b h1 h2 => ?_)) (fun x hx => (r7 x hx).trans (by rw [hw]))
  have x := s7 b (by omega) (by omega) (by omega)
  have y := s3 b (by omega)
  exact ⟨x.1.trans y.1, x.2.trans y.2⟩
