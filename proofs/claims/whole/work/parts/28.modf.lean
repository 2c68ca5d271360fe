/-! the reference: leans, orphans, counts of its tree -/
/-- what the rows say an entry depends on -/
def rNd (w : Nat → Int32) : Nat → Int64 := fun e => dpN (w (2 + 8 * e + 6)) (w (2 + 8 * e + 7))
theorem orL_cong {x : Int64} {g g' : Nat → Int64} : ∀ {n : Nat}, (∀ k, k < n → g k = g' k) → orL x g n = orL x g' n := by
  intro n
  induction n with
  | zero => intro _; rfl
  | succ n ih =>
    intro h
    unfold orL
    rw [ih (fun k hk => h k (by omega)), h n (by omega)]
theorem va_up64_2 (f : Nat → Int64) (k : Nat) (x y : Int64) : va_up (va_up f k x) k y = va_up f k y := by
  funext j
  unfold va_up
  by_cases h : j = k <;> simp [h]
theorem c_findLeans {M : SM} {m n : Nat} (h : ModAt M m) (hn : mI M (m + 1) 0 = nI n) (h40 : n ≤ 40) : cl 131 [.ref m] M = some (none, sJ M (m + 7) (leanT (rNd (mI M (m + 1))) (mJ M (m + 7)) 0 n)) := by
  show rn 131 0 [some (.ref m), none, none, none, none] [] M = _
  have hm := h
  obtain ⟨h1, h2, -, -, -, -, -, h8, -, -, k1, -, -, -, -, -, k7, -⟩ := h
  have hin : inR 0 370 = True := eq_true (by decide)
  have e1 : (0 : Int32).toNatClampNeg = 0 := by decide
  generalize hw : mI M (m + 1) = w at hn
  generalize hN : (some (none, sJ M (m + 7) (leanT (rNd w) (mJ M (m + 7)) 0 n)) : Out) = N
  have lp : ∀ e, e ≤ n → ∀ l2 l3 l4, rn 131 2 [some (.ref m), some (.int (nI e)), l2, l3, l4] [] (sJ M (m + 7) (leanT (rNd w) (mJ M (m + 7)) 0 e)) = N := by
    refine loopB ?_ ?_
    · intro l2 l3 l4
      rw [t131_2]
      simp only [t131_0, t131_1, t131_3, t131_4, t131_7, t131_8, t131_9, t131_12, t131_13, t131_14, t131_17, t131_18, t131_19, t131_22, t131_23, t131_24, t131_25, t131_26, t131_30, t131_31, t131_34, t131_35, t131_38, t131_39, t131_40, t131_41, t131_42, t131_44, t131_45, t131_46, t131_47, t131_48, t131_49, t131_52, t131_53, t131_56, t131_58, t131_59, t131_62, t131_63, t131_64, t131_65, t131_68, t131_71, t131_74, t131_77, mK_sJ, mP_sJ, mI_sJ, h1, h2, va_rf_s, ↓reduceIte, k1, hin, e1, true_or, and_self, hw, hn, leN n (show n < 2147483648 by omega) (show n < 2147483648 by omega), Nat.le_refl, hN]
    · intro e he ih l2 l3 l4
      obtain ⟨g, hg⟩ : ∃ g, g = leanT (rNd w) (mJ M (m + 7)) 0 e := ⟨_, rfl⟩
      have hnx : leanT (rNd w) (mJ M (m + 7)) 0 (e + 1) = va_up g e (orL (rNd w e) g e) := by
        rw [hg]
        show va_up _ (0 + e) _ = _
        rw [Nat.zero_add]
      rw [hnx] at ih
      rw [← hg]
      clear hnx hN
      have hle : ¬ n ≤ e := by omega
      have ee : inR (nI e) 40 = True := i_inT (by omega) (by decide)
      have ed : cl 124 [.ref m, .int (nI e)] (sJ M (m + 7) g) = some (some (.long (rNd w e)), sJ M (m + 7) g) := by
        have := c_deps (hm.sJ (m + 7) g) (show e < 40 by omega)
        rw [mI_sJ, hw] at this
        exact this
      generalize rNd w e = v at ed ih
      have li : ∀ k, k ≤ e → rn 131 28 [some (.ref m), some (.int (nI e)), some (.long v), none, some (.int (nI k))] [] (sJ M (m + 7) (va_up g e (orL v g k))) = N := by
        refine loopB ?_ ?_
        · have := ih (some (.long v)) none (some (.int (nI e)))
          rw [t131_28]
          simp only [t131_30, t131_31, t131_71, t131_74, leN e (show e < 2147483648 by omega) (show e < 2147483648 by omega), Nat.le_refl, ↓reduceIte, n1]
          exact this
        · intro k hk ih2
          rw [t131_28]
          have hle2 : ¬ e ≤ k := by omega
          have kk : inR (nI k) 40 = True := i_inT (by omega) (by decide)
          have hne : va_up g e (orL v g k) k = g k := va_up_ne _ _ (by omega)
          cases hb : bt v k with
          | true =>
            have e2 : orL v g (k + 1) = orL v g k ||| g k := by conv => lhs; unfold orL; rw [if_pos hb]
            rw [e2] at ih2
            simp only [t131_0, t131_1, t131_3, t131_4, t131_7, t131_8, t131_9, t131_12, t131_13, t131_14, t131_17, t131_18, t131_19, t131_22, t131_23, t131_24, t131_25, t131_26, t131_30, t131_31, t131_34, t131_35, t131_38, t131_39, t131_40, t131_41, t131_42, t131_44, t131_45, t131_46, t131_47, t131_48, t131_49, t131_52, t131_53, t131_56, t131_58, t131_59, t131_62, t131_63, t131_64, t131_65, t131_68, t131_71, t131_74, t131_77, leN e (show e < 2147483648 by omega) (show k < 2147483648 by omega), hle2, ↓reduceIte, mK_sJ, mP_sJ, h1, h8, va_rf_s, k7, ee, kk, and_self, nI_c (show e < 2147483648 by omega), nI_c (show k < 2147483648 by omega), mJ_sJ, va_up_self, lg_cmp_eq, bt_read (show k < 64 by omega), hb, hne, sJ_sJ, va_up64_2, n1, not_true_eq_false]
            exact ih2
          | false =>
            have e2 : orL v g (k + 1) = orL v g k := by conv => lhs; unfold orL; rw [if_neg (by rw [hb]; decide)]
            rw [e2] at ih2
            have z : ((0 : Int64) = 1) = False := by decide
            simp only [t131_0, t131_1, t131_3, t131_4, t131_7, t131_8, t131_9, t131_12, t131_13, t131_14, t131_17, t131_18, t131_19, t131_22, t131_23, t131_24, t131_25, t131_26, t131_30, t131_31, t131_34, t131_35, t131_38, t131_39, t131_40, t131_41, t131_42, t131_44, t131_45, t131_46, t131_47, t131_48, t131_49, t131_52, t131_53, t131_56, t131_58, t131_59, t131_62, t131_63, t131_64, t131_65, t131_68, t131_71, t131_74, t131_77, leN e (show e < 2147483648 by omega) (show k < 2147483648 by omega), hle2, ↓reduceIte, mK_sJ, mP_sJ, h1, h8, va_rf_s, k7, ee, kk, and_self, nI_c (show e < 2147483648 by omega), nI_c (show k < 2147483648 by omega), mJ_sJ, va_up_self, lg_cmp_eq, bt_read (show k < 64 by omega), hb, hne, sJ_sJ, va_up64_2, n1, Bool.false_eq_true, z, not_false_eq_true, Int64.or_zero]
            exact ih2
      have l0 := li 0 (Nat.zero_le _)
      rw [show orL v g 0 = v from rfl, show nI 0 = 0 from rfl] at l0
      rw [t131_2]
      simp only [t131_0, t131_1, t131_3, t131_4, t131_7, t131_8, t131_9, t131_12, t131_13, t131_14, t131_17, t131_18, t131_19, t131_22, t131_23, t131_24, t131_25, t131_26, t131_30, t131_31, t131_34, t131_35, t131_38, t131_39, t131_40, t131_41, t131_42, t131_44, t131_45, t131_46, t131_47, t131_48, t131_49, t131_52, t131_53, t131_56, t131_58, t131_59, t131_62, t131_63, t131_64, t131_65, t131_68, t131_71, t131_74, t131_77, mK_sJ, mP_sJ, mI_sJ, h1, h2, h8, va_rf_s, ↓reduceIte, k1, k7, hin, ee, e1, true_or, and_self, hw, hn, leN n (show n < 2147483648 by omega) (show e < 2147483648 by omega), hle, ed, cbn_i, mJ_sJ, sJ_sJ, nI_c (show e < 2147483648 by omega)]
      exact l0
  have h0 := lp 0 (Nat.zero_le _) none none none
  rw [show leanT (rNd w) (mJ M (m + 7)) 0 0 = mJ M (m + 7) from rfl, sJ_self] at h0
  simp only [t131_0, t131_1, t131_3, t131_4, t131_7, t131_8, t131_9, t131_12, t131_13, t131_14, t131_17, t131_18, t131_19, t131_22, t131_23, t131_24, t131_25, t131_26, t131_30, t131_31, t131_34, t131_35, t131_38, t131_39, t131_40, t131_41, t131_42, t131_44, t131_45, t131_46, t131_47, t131_48, t131_49, t131_52, t131_53, t131_56, t131_58, t131_59, t131_62, t131_63, t131_64, t131_65, t131_68, t131_71, t131_74, t131_77]
  exact h0
def flM (M : SM) (m n : Nat) : SM := sJ M (m + 7) (leanT (rNd (mI M (m + 1))) (mJ M (m + 7)) 0 n)
def rG (M : SM) (m n : Nat) : Nat → Int64 := leanT (rNd (mI M (m + 1))) (mJ M (m + 7)) 0 n
theorem c_orphansBy {M : SM} {m n : Nat} (h : ModAt M m) (hn : mI M (m + 1) 0 = nI n) (h40 : n ≤ 40) (x : Int64) : cl 130 [.ref m, .long x] M = some (some (.long (orpB (rG M m n) n x)), flM M m n) := by
  show rn 130 0 [some (.ref m), some (.long x), none, none, none, none] [] M = _
  have hm := h
  obtain ⟨h1, h2, -, -, -, -, -, h8, -, -, k1, -, -, -, -, -, k7, -⟩ := h
  have hin : inR 0 370 = True := eq_true (by decide)
  have e1 : (0 : Int32).toNatClampNeg = 0 := by decide
  generalize hw : mI M (m + 1) = w at hn
  have hf := c_findLeans hm (by rw [hw]; exact hn) h40
  obtain ⟨g, hg⟩ : ∃ g, g = rG M m n := ⟨_, rfl⟩
  have hfm : flM M m n = sJ M (m + 7) g := by rw [hg]; rfl
  have hf : cl 131 [.ref m] M = some (none, sJ M (m + 7) g) := by rw [hf, hg]; rfl
  rw [hfm, ← hg]
  have hp : orpB g n x = mk (fun e => !bt x e && !decide (g e &&& x = 0)) n := by
    apply bt_ext
    intro i hi
    unfold orpB
    rw [bt_and, bt_not x hi, bt_mk _ _ _ (by omega), bt_mk _ _ _ (by omega)]
    cases decide (i < n) <;> cases bt x i <;> cases decide (g i &&& x = 0) <;> rfl
  rw [hp]
  generalize hpp : (fun e => !bt x e && !decide (g e &&& x = 0)) = p
  have hpk : ∀ k, p k = (!bt x k && !decide (g k &&& x = 0)) := fun k => by rw [← hpp]
  generalize hR : mk p n = R
  have lp : ∀ k, k ≤ n → rn 130 9 [some (.ref m), some (.long x), none, some (.long (mk p k)), none, some (.int (nI k))] [] (sJ M (m + 7) g) = some (some (.long R), sJ M (m + 7) g) := by
    refine loopB ?_ ?_
    · rw [t130_9]
      simp only [t130_0, t130_1, t130_4, t130_5, t130_6, t130_7, t130_11, t130_12, t130_15, t130_16, t130_17, t130_20, t130_21, t130_22, t130_24, t130_25, t130_26, t130_27, t130_28, t130_29, t130_32, t130_33, t130_36, t130_38, t130_39, t130_40, t130_41, t130_42, t130_43, t130_46, t130_47, t130_49, t130_50, t130_53, t130_54, t130_55, t130_56, t130_59, t130_62, t130_63, mK_sJ, mP_sJ, mI_sJ, h1, h2, va_rf_s, ↓reduceIte, k1, hin, e1, true_or, and_self, hw, hn, leN n (show n < 2147483648 by omega) (show n < 2147483648 by omega), Nat.le_refl, hR]
    · intro k hk ih
      rw [t130_9]
      have hle : ¬ n ≤ k := by omega
      have hpk := hpk k
      have kk : inR (nI k) 40 = True := i_inT (by omega) (by decide)
      have o : ((1 : Int64) = 0) = False := by decide
      cases hb : bt x k <;> by_cases hq : g k &&& x = 0 <;> simp only [hb, hq, decide_true, decide_false, Bool.not_true, Bool.not_false, Bool.and_true, Bool.and_false, Bool.false_and, Bool.true_and] at hpk <;>
        simp only [t130_0, t130_1, t130_4, t130_5, t130_6, t130_7, t130_11, t130_12, t130_15, t130_16, t130_17, t130_20, t130_21, t130_22, t130_24, t130_25, t130_26, t130_27, t130_28, t130_29, t130_32, t130_33, t130_36, t130_38, t130_39, t130_40, t130_41, t130_42, t130_43, t130_46, t130_47, t130_49, t130_50, t130_53, t130_54, t130_55, t130_56, t130_59, t130_62, t130_63, mK_sJ, mP_sJ, mI_sJ, mJ_sJ, h1, h2, h8, k7, kk, va_rf_s, ↓reduceIte, k1, hin, e1, true_or, and_self, hw, hn, leN n (show n < 2147483648 by omega) (show k < 2147483648 by omega), hle, lg_cmp_eq, bt_read (show k < 64 by omega), hb, hq, o, nI_c (show k < 2147483648 by omega), Bool.false_eq_true, not_true_eq_false, not_false_eq_true, Int64.or_zero, n1] <;>
        simpa only [mk, hpk, ↓reduceIte, Bool.false_eq_true] using ih
  simp only [t130_0, t130_1, t130_4, t130_5, t130_6, t130_7, t130_11, t130_12, t130_15, t130_16, t130_17, t130_20, t130_21, t130_22, t130_24, t130_25, t130_26, t130_27, t130_28, t130_29, t130_32, t130_33, t130_36, t130_38, t130_39, t130_40, t130_41, t130_42, t130_43, t130_46, t130_47, t130_49, t130_50, t130_53, t130_54, t130_55, t130_56, t130_59, t130_62, t130_63, h1, ↓reduceIte, hf, cbn_v]
  exact lp 0 (Nat.zero_le _)
