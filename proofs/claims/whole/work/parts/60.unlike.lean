/-! unlike -/
/-- the tree of the order of writing -/
def woT (K F A : Nat → Int32) (lost : Int64) (s0 : (Nat → Int32) × (Nat → Int32)) : Nat → (Nat → Int32) × (Nat → Int32)
  | 0 => s0
  | k + 1 =>
    let s := woT K F A lost s0 k
    if bt lost k = true then s else if rfs s.1 s.2 (K k).toNatClampNeg (F k).toNatClampNeg (A k) = 0 then (pD s.1 (K k).toNatClampNeg (F k).toNatClampNeg (A k), pV s.2 (K k).toNatClampNeg (F k).toNatClampNeg (A k)) else s
theorem woT_t {K F A : Nat → Int32} {lost : Int64} {s0 : (Nat → Int32) × (Nat → Int32)} {k : Nat} (h : bt lost k = true) : woT K F A lost s0 (k + 1) = woT K F A lost s0 k := by
  conv => lhs; unfold woT
  rw [if_pos h]
theorem woT_f {K F A : Nat → Int32} {lost : Int64} {s0 : (Nat → Int32) × (Nat → Int32)} {k : Nat} (h : bt lost k = false) : woT K F A lost s0 (k + 1) = if rfs (woT K F A lost s0 k).1 (woT K F A lost s0 k).2 (K k).toNatClampNeg (F k).toNatClampNeg (A k) = 0 then (pD (woT K F A lost s0 k).1 (K k).toNatClampNeg (F k).toNatClampNeg (A k), pV (woT K F A lost s0 k).2 (K k).toNatClampNeg (F k).toNatClampNeg (A k)) else woT K F A lost s0 k := by
  conv => lhs; unfold woT
  rw [if_neg (by rw [h]; decide)]
theorem tSet_2 (M : SM) (t : Nat) (D V D' V' : Nat → Int32) : tSet (tSet M t D V) t D' V' = tSet M t D' V' := by
  unfold tSet
  rw [sI_comm _ (show t + 2 ≠ t + 1 by omega), sI_sI, sI_sI]
theorem tSet_tD (M : SM) (t : Nat) (D V : Nat → Int32) : tD (tSet M t D V) t = D := by
  unfold tD tSet
  rw [mI_sI, if_neg (by omega), mI_sI, if_pos rfl]
theorem tSet_tV (M : SM) (t : Nat) (D V : Nat → Int32) : tV (tSet M t D V) t = V := by
  unfold tV tSet
  rw [mI_sI, if_pos rfl]
theorem tSet_I {M : SM} {t b : Nat} {D V : Nat → Int32} (h : b < t + 1 ∨ t + 3 ≤ b) : mI (tSet M t D V) b = mI M b := by
  unfold tSet
  rw [mI_sI, if_neg (by omega), mI_sI, if_neg (by omega)]
theorem Fr_tSet (M : SM) (t : Nat) (D V : Nat → Int32) : Fr M (tSet M t D V) t (t + 3) := ⟨rfl, fun b hb => ⟨tSet_I (by omega), rfl⟩⟩
/-- the class's loop -/
theorem c_woLoop {M : SM} {S sb L n : Nat} {w : Nat → Int32} (hS : Stat M S sb L) (hL : LR M (S + 1 + 1) w n) : ∀ k, k ≤ n → rn 72 21 [some (.ref S), some (.ref (S + 1 + 1)), some (.int (nI k))] [] (tSet M (S + 117) (woT (mI M (S + 1 + 1 + 1)) (mI M (S + 1 + 1 + 2)) (mI M (S + 1 + 1 + 3)) (mJ M (S + 1 + 1) 1) (tD M (S + 117), tV M (S + 117)) k).1 (woT (mI M (S + 1 + 1 + 1)) (mI M (S + 1 + 1 + 2)) (mI M (S + 1 + 1 + 3)) (mJ M (S + 1 + 1) 1) (tD M (S + 117), tV M (S + 117)) k).2) = rn 72 72 [some (.ref S), some (.ref (S + 1 + 1)), some (.int (nI n))] [] (tSet M (S + 117) (woT (mI M (S + 1 + 1 + 1)) (mI M (S + 1 + 1 + 2)) (mI M (S + 1 + 1 + 3)) (mJ M (S + 1 + 1) 1) (tD M (S + 117), tV M (S + 117)) n).1 (woT (mI M (S + 1 + 1 + 1)) (mI M (S + 1 + 1 + 2)) (mI M (S + 1 + 1 + 3)) (mJ M (S + 1 + 1) 1) (tD M (S + 117), tV M (S + 117)) n).2) := by
  obtain ⟨⟨K0, P0, P1, P2, P3, P4, P5, P6⟩, SN, ⟨KH, PH, KR, RG⟩, ⟨KL, SL⟩, ⟨KP, PP, KC⟩, ⟨KD, PD⟩, TQ, TW, MM, ⟨LO1, LO2, LO3, LO4⟩⟩ := hS
  obtain ⟨q1, q2, q3, q4, q5⟩ := SN
  have hsz := hL.1
  have n40 := hL.2.1
  have hok := hL.2.2.2.1
  have one0 : ((1 : Int32) = 0) = False := by decide
  generalize hwo : woT (mI M (S + 1 + 1 + 1)) (mI M (S + 1 + 1 + 2)) (mI M (S + 1 + 1 + 3)) (mJ M (S + 1 + 1) 1) (tD M (S + 117), tV M (S + 117)) = wo
  have wt := fun k (h : bt (mJ M (S + 1 + 1) 1) k = true) => woT_t (K := mI M (S + 1 + 1 + 1)) (F := mI M (S + 1 + 1 + 2)) (A := mI M (S + 1 + 1 + 3)) (s0 := (tD M (S + 117), tV M (S + 117))) h
  have wf := fun k (h : bt (mJ M (S + 1 + 1) 1) k = false) => woT_f (K := mI M (S + 1 + 1 + 1)) (F := mI M (S + 1 + 1 + 2)) (A := mI M (S + 1 + 1 + 3)) (s0 := (tD M (S + 117), tV M (S + 117))) h
  rw [hwo] at wt wf
  have eI : ∀ D V b, (b < S + 117 ∨ S + 120 ≤ b) → mI (tSet M (S + 117) D V) b = mI M b := fun D V b hb => tSet_I (by omega)
  have eJ : ∀ D V, mJ (tSet M (S + 117) D V) = mJ M := fun _ _ => rfl
  have eK : ∀ D V, mK (tSet M (S + 117) D V) = mK M := fun _ _ => rfl
  have eP : ∀ D V, mP (tSet M (S + 117) D V) = mP M := fun _ _ => rfl
  generalize hXX : rn 72 72 [some (.ref S), some (.ref (S + 1 + 1)), some (.int (nI n))] [] (tSet M (S + 117) (wo n).1 (wo n).2) = X
  refine loopB ?_ ?_
  · rw [t72_21]
    simp only [t72_0, t72_1, t72_4, t72_5, t72_8, t72_11, t72_12, t72_13, t72_16, t72_19, t72_20, t72_22, t72_23, t72_26, t72_29, t72_30, t72_33, t72_34, t72_37, t72_40, t72_41, t72_44, t72_45, t72_48, t72_49, t72_50, t72_51, t72_54, t72_55, t72_56, t72_57, t72_60, t72_61, t72_62, t72_65, t72_66, t72_69, t72_72, t72_73, t72_76, t72_79, t72_80, t72_83, t72_86, eK, eP, q4.1, eI _ _ (S + 1 + 1) (by omega), hsz, leN n (show n < 2147483648 by omega) (show n < 2147483648 by omega), Nat.le_refl, ↓reduceIte] at hXX ⊢
    exact hXX
  · intro k hk ih
    have hle : ¬ n ≤ k := by omega
    have ho := c_holds (mJ M (S + 1 + 1) 1) (show k < 64 by omega) (tSet M (S + 117) (wo k).1 (wo k).2)
    have hin : inR (nI k) 40 = True := i_inT (by omega) (by decide)
    have hck := nI_c (show k < 2147483648 by omega)
    obtain ⟨o1, o2, o3⟩ := hok k hk
    rw [t72_21]
    cases hb : bt (mJ M (S + 1 + 1) 1) k with
    | true =>
      rw [hb] at ho
      rw [wt k hb] at ih
      simp only [t72_0, t72_1, t72_4, t72_5, t72_8, t72_11, t72_12, t72_13, t72_16, t72_19, t72_20, t72_22, t72_23, t72_26, t72_29, t72_30, t72_33, t72_34, t72_37, t72_40, t72_41, t72_44, t72_45, t72_48, t72_49, t72_50, t72_51, t72_54, t72_55, t72_56, t72_57, t72_60, t72_61, t72_62, t72_65, t72_66, t72_69, t72_72, t72_73, t72_76, t72_79, t72_80, t72_83, t72_86, eK, eP, eJ, q4.1, eI _ _ (S + 1 + 1) (by omega), hsz, leN n (show n < 2147483648 by omega) (show k < 2147483648 by omega), hle, ho, cbn_i, one0, ↓reduceIte, not_false_eq_true, n1] at ih ⊢
      exact ih
    | false =>
      rw [hb] at ho
      rw [wf k hb] at ih
      have hA := c_apply (M := tSet M (S + 117) (wo k).1 (wo k).2) (t := S + 117) (kd := (mI M (S + 1 + 1 + 1) k).toNatClampNeg) (f := (mI M (S + 1 + 1 + 2) k).toNatClampNeg) (a := mI M (S + 1 + 1 + 3) k) (TW.st (by rfl)) o1
      rw [← o2, ← o3, tSet_tD, tSet_tV, tSet_2] at hA
      by_cases z : rfs (wo k).1 (wo k).2 (mI M (S + 1 + 1 + 1) k).toNatClampNeg (mI M (S + 1 + 1 + 2) k).toNatClampNeg (mI M (S + 1 + 1 + 3) k) = 0
      · rw [if_pos z] at hA ih
        simp only [t72_0, t72_1, t72_4, t72_5, t72_8, t72_11, t72_12, t72_13, t72_16, t72_19, t72_20, t72_22, t72_23, t72_26, t72_29, t72_30, t72_33, t72_34, t72_37, t72_40, t72_41, t72_44, t72_45, t72_48, t72_49, t72_50, t72_51, t72_54, t72_55, t72_56, t72_57, t72_60, t72_61, t72_62, t72_65, t72_66, t72_69, t72_72, t72_73, t72_76, t72_79, t72_80, t72_83, t72_86, eK, eP, eJ, K0, P6, TW.1, q4.1, q4.2.1, q4.2.2.1, q4.2.2.2.1, q4.2.2.2.2.2.2.1, q4.2.2.2.2.2.2.2.1, q4.2.2.2.2.2.2.2.2.1, va_rf_s, eI _ _ (S + 1 + 1) (by omega), eI _ _ (S + 1 + 1 + 1) (by omega), eI _ _ (S + 1 + 1 + 2) (by omega), eI _ _ (S + 1 + 1 + 3) (by omega), hsz, leN n (show n < 2147483648 by omega) (show k < 2147483648 by omega), hle, ho, hin, hck, true_or, and_self, hA, cbn_i, ↓reduceIte, Bool.false_eq_true, not_true_eq_false, n1] at ih ⊢
        exact ih
      · rw [if_neg z] at hA ih
        simp only [t72_0, t72_1, t72_4, t72_5, t72_8, t72_11, t72_12, t72_13, t72_16, t72_19, t72_20, t72_22, t72_23, t72_26, t72_29, t72_30, t72_33, t72_34, t72_37, t72_40, t72_41, t72_44, t72_45, t72_48, t72_49, t72_50, t72_51, t72_54, t72_55, t72_56, t72_57, t72_60, t72_61, t72_62, t72_65, t72_66, t72_69, t72_72, t72_73, t72_76, t72_79, t72_80, t72_83, t72_86, eK, eP, eJ, K0, P6, TW.1, q4.1, q4.2.1, q4.2.2.1, q4.2.2.2.1, q4.2.2.2.2.2.2.1, q4.2.2.2.2.2.2.2.1, q4.2.2.2.2.2.2.2.2.1, va_rf_s, eI _ _ (S + 1 + 1) (by omega), eI _ _ (S + 1 + 1 + 1) (by omega), eI _ _ (S + 1 + 1 + 2) (by omega), eI _ _ (S + 1 + 1 + 3) (by omega), hsz, leN n (show n < 2147483648 by omega) (show k < 2147483648 by omega), hle, ho, hin, hck, true_or, and_self, hA, cbn_i, ↓reduceIte, Bool.false_eq_true, not_true_eq_false, n1] at ih ⊢
        exact ih
/-- the reference's loop -/
theorem c_mWoLoop {M : SM} {m n : Nat} {K F A : Nat → Int32} {nd ln : Nat → Int64} {lost : Int64} {s0 : (Nat → Int32) × (Nat → Int32)} (hm : ModAt M m) (hL : LRel K F A nd ln lost (mI M (m + 1)) n) (l2 : Option Value) : ∀ k, k ≤ n → ∀ u, (∀ j, j < 322 → u j = mI M (m + 1) j) → TR u (woT K F A lost s0 k).1 (woT K F A lost s0 k).2 → TI (woT K F A lost s0 k).1 (woT K F A lost s0 k).2 →
    ∃ U, rn 160 19 [some (.ref m), some (.int (nI k)), l2] [] (sI M (m + 1) u) = rn 160 50 [some (.ref m), some (.int (nI n)), l2] [] (sI M (m + 1) U) ∧ (∀ j, j < 322 → U j = mI M (m + 1) j) ∧ TR U (woT K F A lost s0 n).1 (woT K F A lost s0 n).2 := by
  obtain ⟨n40, w0, ok, row, lst, lsn, nds, ndb, lns⟩ := hL
  have hin : inR 0 370 = True := eq_true (by decide)
  have z0 : (0 : Int32).toNatClampNeg = 0 := by decide
  have one0 : ((1 : Int32) = 0) = False := by decide
  have wt := fun k (h : bt lost k = true) => woT_t (K := K) (F := F) (A := A) (s0 := s0) h
  have wf := fun k (h : bt lost k = false) => woT_f (K := K) (F := F) (A := A) (s0 := s0) h
  generalize woT K F A lost s0 = wo at *
  refine loopB ?_ ?_
  · intro u hu hT hI
    refine ⟨u, ?_, hu, hT⟩
    have u0 : u 0 = nI n := (hu 0 (by decide)).trans w0
    rw [t160_19]
    simp only [t160_20, t160_21, t160_24, t160_25, t160_26, mK_sI, mP_sI, hm.1, hm.2.1, hm.2.2.2.2.2.2.2.2.2.2.1, va_rf_s, mI_sI, ↓reduceIte, true_or, hin, and_self, z0, u0, leN n (show n < 2147483648 by omega) (show n < 2147483648 by omega), Nat.le_refl]
  · intro k hk ih u hu hT hI
    have hle : ¬ n ≤ k := by omega
    have u0 : u 0 = nI n := (hu 0 (by decide)).trans w0
    have p3 := c_part (hm.sI (m + 1) u) (show k < 40 by omega) (show 3 < 8 by decide)
    rw [mI_sI, if_pos rfl, hu _ (by omega), lst k hk, show nI 3 = 3 from rfl] at p3
    obtain ⟨o1, o2, o3⟩ := ok k hk
    cases hb : bt lost k with
    | true =>
      rw [hb] at p3
      rw [wt k hb] at ih
      obtain ⟨U, a, b⟩ := ih u hu hT hI
      refine ⟨U, ?_, b⟩
      rw [t160_19]
      simp only [t160_20, t160_21, t160_24, t160_25, t160_26, t160_29, t160_30, t160_31, t160_32, t160_35, t160_38, t160_39, t160_40, t160_43, t160_44, t160_47, mK_sI, mP_sI, hm.1, hm.2.1, hm.2.2.2.2.2.2.2.2.2.2.1, va_rf_s, mI_sI, ↓reduceIte, true_or, hin, and_self, z0, u0, leN n (show n < 2147483648 by omega) (show k < 2147483648 by omega), hle, p3, cbn_i, one0, not_false_eq_true, n1]
      exact a
    | false =>
      rw [hb] at p3
      rw [wf k hb] at ih
      obtain ⟨r0, r1, r2⟩ := row k hk
      obtain ⟨w', h1, h2, h3⟩ := c_plays (M := sI M (m + 1) u) (e := k) (kd := (K k).toNatClampNeg) (f := (F k).toNatClampNeg) (a := A k) (D := (wo k).1) (V := (wo k).2) (hm.sI _ _) (by rw [mI_sI, if_pos rfl]; exact hT) hI (by omega) (by rw [mI_sI, if_pos rfl, hu _ (by omega), r0]; exact o2) (by rw [mI_sI, if_pos rfl, hu _ (by omega), r1]; exact o3) (by rw [mI_sI, if_pos rfl, hu _ (by omega), r2]) o1
      rw [sI_sI] at h1
      rw [mI_sI, if_pos rfl] at h2
      obtain ⟨U, a, b⟩ := ih w' (fun j hj => (h2 j hj).trans (hu j hj)) (by
        split
        · rename_i z; rw [if_pos z, if_pos z] at h3; exact h3
        · rename_i z; rw [if_neg z, if_neg z] at h3; exact h3) (by
        split
        · rename_i z; exact TI_play hI o1 z
        · exact hI)
      refine ⟨U, ?_, b⟩
      rw [t160_19]
      simp only [t160_20, t160_21, t160_24, t160_25, t160_26, t160_29, t160_30, t160_31, t160_32, t160_35, t160_38, t160_39, t160_40, t160_43, t160_44, t160_47, mK_sI, mP_sI, hm.1, hm.2.1, hm.2.2.2.2.2.2.2.2.2.2.1, va_rf_s, mI_sI, ↓reduceIte, true_or, hin, and_self, z0, u0, leN n (show n < 2147483648 by omega) (show k < 2147483648 by omega), hle, p3, cbn_i, one0, not_true_eq_false, not_false_eq_true, Bool.false_eq_true, h1, n1]
      exact a
