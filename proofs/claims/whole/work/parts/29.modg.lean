/-! the reference: a round -/
def rRp (w : Nat → Int32) (n : Nat) : Int64 := mk (fun e => !decide (w (2 + 8 * e + 4) = -6)) n
def rRd (w : Nat → Int32) (n : Nat) : Int64 := mk (fun e => decide (w (2 + 8 * e + 3) = 0) && (decide (w (2 + 8 * e + 4) = -6) && decide (rNd w e &&& (rRp w n ^^^ (-1)) = 0))) n
theorem c_readyOnes {M : SM} {m n : Nat} (h : ModAt M m) (hn : mI M (m + 1) 0 = nI n) (h40 : n ≤ 40) : cl 137 [.ref m] M = some (some (.long (rRd (mI M (m + 1)) n)), M) := by
  show rn 137 0 [some (.ref m), none, none, none, none, none, none] [] M = _
  have hm := h
  have hrp := c_mReplayed h hn h40
  have hdp := fun k (hk : k < 40) => c_deps h hk
  have hp3 := fun k (hk : k < 40) => c_part h hk (show 3 < 8 by decide)
  have hp4 := fun k (hk : k < 40) => c_part h hk (show 4 < 8 by decide)
  rw [show nI 3 = 3 from rfl] at hp3
  rw [show nI 4 = 4 from rfl] at hp4
  obtain ⟨h1, h2, -, -, -, -, -, -, -, -, k1, -⟩ := h
  have hin : inR 0 370 = True := eq_true (by decide)
  have e1 : (0 : Int32).toNatClampNeg = 0 := by decide
  unfold rRd
  generalize hw : mI M (m + 1) = w at *
  have hrp : cl 134 [.ref m] M = some (some (.long (rRp w n)), M) := hrp
  generalize rRp w n = rp at *
  generalize hpp : (fun e => decide (w (2 + 8 * e + 3) = 0) && (decide (w (2 + 8 * e + 4) = -6) && decide (rNd w e &&& (rp ^^^ (-1)) = 0))) = p
  have hpk : ∀ k, p k = (decide (w (2 + 8 * k + 3) = 0) && (decide (w (2 + 8 * k + 4) = -6) && decide (rNd w k &&& (rp ^^^ (-1)) = 0))) := fun k => by rw [← hpp]
  generalize hR : mk p n = R
  have lp : ∀ k, k ≤ n → ∀ l6, rn 137 10 [some (.ref m), some (.long rp), none, some (.long (mk p k)), none, some (.int (nI k)), l6] [] M = some (some (.long R), M) := by
    refine loopB ?_ ?_
    · intro l6
      rw [t137_10]
      simp only [t137_0, t137_1, t137_4, t137_5, t137_6, t137_7, t137_8, t137_12, t137_13, t137_16, t137_17, t137_18, t137_21, t137_22, t137_24, t137_25, t137_28, t137_31, t137_32, t137_34, t137_35, t137_38, t137_40, t137_43, t137_44, t137_46, t137_49, t137_50, t137_53, t137_54, t137_55, t137_56, t137_57, t137_60, t137_61, t137_64, t137_65, t137_67, t137_68, t137_70, t137_73, t137_74, t137_76, t137_77, t137_80, t137_81, t137_82, t137_83, t137_86, t137_89, t137_90, h1, h2, va_rf_s, ↓reduceIte, k1, hin, e1, true_or, and_self, hw, hn, leN n (show n < 2147483648 by omega) (show n < 2147483648 by omega), Nat.le_refl, hR]
    · intro k hk ih l6
      rw [t137_10]
      have hle : ¬ n ≤ k := by omega
      have hpk := hpk k
      have q3 := hp3 k (by omega)
      have q4 := hp4 k (by omega)
      have qd : cl 124 [.ref m, .int (nI k)] M = some (some (.long (rNd w k)), M) := hdp k (by omega)
      have o : ((1 : Int32) = 0) = False := by decide
      by_cases c3 : w (2 + 8 * k + 3) = 0 <;> by_cases c4 : w (2 + 8 * k + 4) = -6 <;> by_cases cd : rNd w k &&& (rp ^^^ (-1)) = 0 <;> simp only [c3, c4, cd, decide_true, decide_false, Bool.and_true, Bool.and_false, Bool.false_and, Bool.true_and] at hpk <;>
        simp only [t137_0, t137_1, t137_4, t137_5, t137_6, t137_7, t137_8, t137_12, t137_13, t137_16, t137_17, t137_18, t137_21, t137_22, t137_24, t137_25, t137_28, t137_31, t137_32, t137_34, t137_35, t137_38, t137_40, t137_43, t137_44, t137_46, t137_49, t137_50, t137_53, t137_54, t137_55, t137_56, t137_57, t137_60, t137_61, t137_64, t137_65, t137_67, t137_68, t137_70, t137_73, t137_74, t137_76, t137_77, t137_80, t137_81, t137_82, t137_83, t137_86, t137_89, t137_90, h1, h2, va_rf_s, ↓reduceIte, k1, hin, e1, true_or, and_self, hw, hn, leN n (show n < 2147483648 by omega) (show k < 2147483648 by omega), hle, q3, q4, qd, cbn_i, c3, c4, lg_cmp_eq, cd, o, Bool.false_eq_true, not_true_eq_false, not_false_eq_true, Int64.or_zero, n1] <;>
        simpa only [mk, hpk, ↓reduceIte, Bool.false_eq_true] using ih _
  simp only [t137_0, t137_1, t137_4, t137_5, t137_6, t137_7, t137_8, t137_12, t137_13, t137_16, t137_17, t137_18, t137_21, t137_22, t137_24, t137_25, t137_28, t137_31, t137_32, t137_34, t137_35, t137_38, t137_40, t137_43, t137_44, t137_46, t137_49, t137_50, t137_53, t137_54, t137_55, t137_56, t137_57, t137_60, t137_61, t137_64, t137_65, t137_67, t137_68, t137_70, t137_73, t137_74, t137_76, t137_77, t137_80, t137_81, t137_82, t137_83, t137_86, t137_89, t137_90, h1, ↓reduceIte, hrp, cbn_i]
  exact lp 0 (Nat.zero_le _) none
