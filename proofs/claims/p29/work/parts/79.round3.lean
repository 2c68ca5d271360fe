/-! the law's rounds -/
/-- the law's row of entries -/
def EnR (X K F A ro re : Nat → Int32) (n : Nat) : Prop := ∀ e, e < n → X (5 * e) = K e ∧ X (5 * e + 1) = F e ∧ X (5 * e + 2) = A e ∧ X (5 * e + 3) = ro e ∧ X (5 * e + 4) = re e
def EnS (K F A : Nat → Int32) (n : Nat) : Prop := ∀ e, e < n → okS (K e).toNatClampNeg (F e).toNatClampNeg (A e) ∧ K e = nI (K e).toNatClampNeg ∧ F e = nI (F e).toNatClampNeg
/-- rounds, as entries hold them -/
def RoB (ro : Nat → Int32) (n : Nat) : Prop := ∀ e, e < n → ro e = -6 ∨ ∃ i, i < 2147483648 ∧ ro e = nI i
theorem EnR_up {X K F A ro re : Nat → Int32} {n k : Nat} (h : EnR X K F A ro re n) (x r : Int32) : EnR (va_up (va_up X (5 * k + 4) x) (5 * k + 3) r) K F A (va_up ro k r) (va_up re k x) n := by
  intro e he
  obtain ⟨h0, h1, h2, h3, h4⟩ := h e he
  by_cases q : e = k
  · subst q
    rw [va_up_ne _ _ (show 5 * e ≠ 5 * e + 3 by omega), va_up_ne _ _ (show 5 * e ≠ 5 * e + 4 by omega), va_up_ne _ _ (show 5 * e + 1 ≠ 5 * e + 3 by omega), va_up_ne _ _ (show 5 * e + 1 ≠ 5 * e + 4 by omega), va_up_ne _ _ (show 5 * e + 2 ≠ 5 * e + 3 by omega), va_up_ne _ _ (show 5 * e + 2 ≠ 5 * e + 4 by omega), va_up_self, va_up_ne _ _ (show 5 * e + 4 ≠ 5 * e + 3 by omega), va_up_self, va_up_self, va_up_self]
    exact ⟨h0, h1, h2, rfl, rfl⟩
  · rw [va_up_ne _ _ (show 5 * e ≠ 5 * k + 3 by omega), va_up_ne _ _ (show 5 * e ≠ 5 * k + 4 by omega), va_up_ne _ _ (show 5 * e + 1 ≠ 5 * k + 3 by omega), va_up_ne _ _ (show 5 * e + 1 ≠ 5 * k + 4 by omega), va_up_ne _ _ (show 5 * e + 2 ≠ 5 * k + 3 by omega), va_up_ne _ _ (show 5 * e + 2 ≠ 5 * k + 4 by omega), va_up_ne _ _ (show 5 * e + 3 ≠ 5 * k + 3 by omega), va_up_ne _ _ (show 5 * e + 3 ≠ 5 * k + 4 by omega), va_up_ne _ _ (show 5 * e + 4 ≠ 5 * k + 3 by omega), va_up_ne _ _ (show 5 * e + 4 ≠ 5 * k + 4 by omega), va_up_ne _ _ q, va_up_ne _ _ q]
    exact ⟨h0, h1, h2, h3, h4⟩
theorem Six_play {V : Nat → Int32} (h : Six V) {kd f : Nat} {a : Int32} (hf : f < 6) : Six (pV V kd f a) := by
  intro g g1 g2
  have e : g ≠ f := by omega
  unfold pV
  repeat' split
  all_goals first | (rw [va_up_ne _ _ e]; exact h g g1 g2) | exact h g g1 g2
theorem c_ready3 {M : SM} {q E d n : Nat} {nd : Nat → Int64} {lost rp : Int64} {ro : Nat → Int32} (hq : mK M q = (1, 3)) (hE : mK M E = (1, 60)) (hk : mK M d = (1, 12)) (n12 : n ≤ 12) (hn : mI M q 0 = nI n) (hl2 : mI M q 2 = s32 lost) (wl : w12 lost)
    (hro : ∀ e, e < n → mI M E (5 * e + 3) = ro e) (hrb : RoB ro n) (hrp : ∀ e, bt rp e = (decide (e < n) && !decide (ro e = -6))) (hD : DeR (mI M d) nd n) (hb : ∀ e, e < n → ∀ k, bt (nd e) k = true → k < e) :
    cl 65 [.ref q, .ref E, .ref d] M = some (some (.int (s32 (rdyB nd n lost rp))), M) := by
  have wr : w12 rp := fun k hk' => by rw [hrp, Bool.and_eq_true, decide_eq_true_eq] at hk'; omega
  obtain ⟨p1, hp1⟩ : ∃ p : Nat → Bool, p = fun e => !decide (ro e = -6) := ⟨_, rfl⟩
  obtain ⟨p2, hp2⟩ : ∃ p : Nat → Bool, p = fun e => !bt (lost ||| rp) e && decide (nd e &&& (rp ^^^ (-1)) = 0) := ⟨_, rfl⟩
  have hR1 : m32 p1 n = s32 rp := by
    rw [m32_s n12]
    congr 1
    apply bt_ext
    intro i hi
    rw [bt_mk _ _ _ (by omega), hrp, hp1]
  have hR2 : m32 p2 n = s32 (rdyB nd n lost rp) := by
    rw [m32_s n12, hp2]
    rfl
  have lp2 : ∀ k, k ≤ n → rn 65 47 [some (.ref q), some (.ref E), some (.ref d), some (.int (s32 rp)), some (.int (m32 p2 k)), some (.int (nI k))] [] M = some (some (.int (m32 p2 n)), M) := by
    refine loopB ?_ ?_
    · rw [t65_47]
      simp only [t65_0, t65_1, t65_2, t65_3, t65_7, t65_8, t65_9, t65_10, t65_13, t65_14, t65_15, t65_16, t65_18, t65_19, t65_20, t65_21, t65_22, t65_25, t65_26, t65_28, t65_29, t65_32, t65_33, t65_34, t65_35, t65_38, t65_41, t65_42, t65_44, t65_45, t65_49, t65_50, t65_51, t65_52, t65_55, t65_57, t65_58, t65_59, t65_60, t65_61, t65_62, t65_64, t65_65, t65_66, t65_67, t65_70, t65_71, t65_73, t65_74, t65_75, t65_76, t65_77, t65_78, t65_81, t65_82, t65_84, t65_85, t65_88, t65_89, t65_90, t65_92, t65_95, t65_98, t65_100, hq, true_or, i03, and_self, ↓reduceIte, z0, hn, lE (show n ≤ 1000000 by omega) (show n ≤ 1000000 by omega), Nat.le_refl]
    · intro k hk' ih
      have hle : ¬ n ≤ k := by omega
      have hpk : p2 k = (!bt (lost ||| rp) k && decide (nd k &&& (rp ^^^ (-1)) = 0)) := by rw [hp2]
      have wk : w12 (nd k) := fun j hj => by have := hb k hk' j hj; omega
      have hand : (s32 (nd k) &&& (s32 rp ^^^ (-1)) = 0) = (nd k &&& (rp ^^^ (-1)) = 0) := by
        have e : s32 (nd k) &&& (s32 rp ^^^ (-1)) = s32 (nd k &&& (rp ^^^ (-1))) := by
          apply s32_of
          intro i hi
          rw [b3_and, b3_not _ hi, b3_w wk, b3_w wr, bt_and, bt_not _ (by omega)]
          cases hq : bt (nd k) i with
          | true => have := wk i hq; simp [this]
          | false => simp
        rw [e, s32_0 (w12_and wk)]
      rw [m32_S, hpk] at ih
      have hor : s32 rp ||| s32 lost = s32 (lost ||| rp) := by
        rw [s32_or]
        congr 1
        apply bt_ext
        intro i _
        rw [bt_or, bt_or, Bool.or_comm]
      have one0 : ((1 : Int32) = 0) = False := by decide
      rw [t65_47]
      cases hx : bt (lost ||| rp) k with
      | true =>
        rw [hx] at ih
        simp only [Bool.not_true, Bool.false_and, Bool.false_eq_true, ↓reduceIte] at ih
        simp only [t65_0, t65_1, t65_2, t65_3, t65_7, t65_8, t65_9, t65_10, t65_13, t65_14, t65_15, t65_16, t65_18, t65_19, t65_20, t65_21, t65_22, t65_25, t65_26, t65_28, t65_29, t65_32, t65_33, t65_34, t65_35, t65_38, t65_41, t65_42, t65_44, t65_45, t65_49, t65_50, t65_51, t65_52, t65_55, t65_57, t65_58, t65_59, t65_60, t65_61, t65_62, t65_64, t65_65, t65_66, t65_67, t65_70, t65_71, t65_73, t65_74, t65_75, t65_76, t65_77, t65_78, t65_81, t65_82, t65_84, t65_85, t65_88, t65_89, t65_90, t65_92, t65_95, t65_98, t65_100, hq, true_or, i03, i23, and_self, ↓reduceIte, z0, z2, hn, lE (show n ≤ 1000000 by omega) (show k ≤ 1000000 by omega), hle, hl2, hor, b3_read (show k < 32 by omega), b3_w (w12_or wl wr), hx, one0, not_false_eq_true, Int32.or_zero, n1]
        exact ih
      | false =>
        rw [hx] at ih
        by_cases hz : nd k &&& (rp ^^^ (-1)) = 0
        · simp only [hz, decide_true, Bool.not_false, Bool.and_self, ↓reduceIte] at ih
          simp only [t65_0, t65_1, t65_2, t65_3, t65_7, t65_8, t65_9, t65_10, t65_13, t65_14, t65_15, t65_16, t65_18, t65_19, t65_20, t65_21, t65_22, t65_25, t65_26, t65_28, t65_29, t65_32, t65_33, t65_34, t65_35, t65_38, t65_41, t65_42, t65_44, t65_45, t65_49, t65_50, t65_51, t65_52, t65_55, t65_57, t65_58, t65_59, t65_60, t65_61, t65_62, t65_64, t65_65, t65_66, t65_67, t65_70, t65_71, t65_73, t65_74, t65_75, t65_76, t65_77, t65_78, t65_81, t65_82, t65_84, t65_85, t65_88, t65_89, t65_90, t65_92, t65_95, t65_98, t65_100, hq, hk, true_or, i03, i23, and_self, ↓reduceIte, z0, z2, hn, lE (show n ≤ 1000000 by omega) (show k ≤ 1000000 by omega), hle, hl2, hor, b3_read (show k < 32 by omega), b3_w (w12_or wl wr), hx, Bool.false_eq_true, not_true_eq_false, iT (show k < 12 by omega) (by decide), cN (show k ≤ 1000000 by omega), hD k hk', hand, hz, n1]
          exact ih
        · simp only [hz, decide_false, Bool.not_false, Bool.and_false, Bool.false_eq_true, ↓reduceIte] at ih
          simp only [t65_0, t65_1, t65_2, t65_3, t65_7, t65_8, t65_9, t65_10, t65_13, t65_14, t65_15, t65_16, t65_18, t65_19, t65_20, t65_21, t65_22, t65_25, t65_26, t65_28, t65_29, t65_32, t65_33, t65_34, t65_35, t65_38, t65_41, t65_42, t65_44, t65_45, t65_49, t65_50, t65_51, t65_52, t65_55, t65_57, t65_58, t65_59, t65_60, t65_61, t65_62, t65_64, t65_65, t65_66, t65_67, t65_70, t65_71, t65_73, t65_74, t65_75, t65_76, t65_77, t65_78, t65_81, t65_82, t65_84, t65_85, t65_88, t65_89, t65_90, t65_92, t65_95, t65_98, t65_100, hq, hk, true_or, i03, i23, and_self, ↓reduceIte, z0, z2, hn, lE (show n ≤ 1000000 by omega) (show k ≤ 1000000 by omega), hle, hl2, hor, b3_read (show k < 32 by omega), b3_w (w12_or wl wr), hx, Bool.false_eq_true, not_true_eq_false, not_false_eq_true, iT (show k < 12 by omega) (by decide), cN (show k ≤ 1000000 by omega), hD k hk', hand, hz, Int32.or_zero, n1]
          exact ih
  have lp1 : ∀ k, k ≤ n → rn 65 5 [some (.ref q), some (.ref E), some (.ref d), some (.int (m32 p1 k)), some (.int (nI k)), none] [] M = rn 65 47 [some (.ref q), some (.ref E), some (.ref d), some (.int (m32 p1 n)), some (.int 0), some (.int 0)] [] M := by
    refine loopB ?_ ?_
    · rw [t65_5]
      simp only [t65_0, t65_1, t65_2, t65_3, t65_7, t65_8, t65_9, t65_10, t65_13, t65_14, t65_15, t65_16, t65_18, t65_19, t65_20, t65_21, t65_22, t65_25, t65_26, t65_28, t65_29, t65_32, t65_33, t65_34, t65_35, t65_38, t65_41, t65_42, t65_44, t65_45, t65_49, t65_50, t65_51, t65_52, t65_55, t65_57, t65_58, t65_59, t65_60, t65_61, t65_62, t65_64, t65_65, t65_66, t65_67, t65_70, t65_71, t65_73, t65_74, t65_75, t65_76, t65_77, t65_78, t65_81, t65_82, t65_84, t65_85, t65_88, t65_89, t65_90, t65_92, t65_95, t65_98, t65_100, hq, true_or, i03, and_self, ↓reduceIte, z0, hn, lE (show n ≤ 1000000 by omega) (show n ≤ 1000000 by omega), Nat.le_refl]
    · intro k hk' ih
      have hle : ¬ n ≤ k := by omega
      have hpk : p1 k = !decide (ro k = -6) := by rw [hp1]
      rw [m32_S, hpk] at ih
      rw [t65_5]
      rcases hrb k hk' with h | ⟨i, hi, h⟩
      · have hneg : ((-6 : Int32) < 0) = True := by decide
        simp only [h, decide_true, Bool.not_true, Bool.false_eq_true, ↓reduceIte] at ih
        simp only [t65_0, t65_1, t65_2, t65_3, t65_7, t65_8, t65_9, t65_10, t65_13, t65_14, t65_15, t65_16, t65_18, t65_19, t65_20, t65_21, t65_22, t65_25, t65_26, t65_28, t65_29, t65_32, t65_33, t65_34, t65_35, t65_38, t65_41, t65_42, t65_44, t65_45, t65_49, t65_50, t65_51, t65_52, t65_55, t65_57, t65_58, t65_59, t65_60, t65_61, t65_62, t65_64, t65_65, t65_66, t65_67, t65_70, t65_71, t65_73, t65_74, t65_75, t65_76, t65_77, t65_78, t65_81, t65_82, t65_84, t65_85, t65_88, t65_89, t65_90, t65_92, t65_95, t65_98, t65_100, hq, hE, true_or, i03, and_self, ↓reduceIte, z0, hn, lE (show n ≤ 1000000 by omega) (show k ≤ 1000000 by omega), hle, x5, n3, iT (show 5 * k + 3 < 60 by omega) (by decide), cN (show 5 * k + 3 ≤ 1000000 by omega), hro k hk', h, hneg, Int32.or_zero, n1]
        exact ih
      · have hneg : (nI i < 0) = False := eq_false (nI_pos (by omega))
        have h6 : ¬ ro k = -6 := fun e => by
          rw [e] at h
          rw [← h] at hneg
          exact absurd (show ((-6 : Int32) < 0) by decide) (of_eq_false hneg)
        simp only [h6, decide_false, Bool.not_false, ↓reduceIte] at ih
        simp only [t65_0, t65_1, t65_2, t65_3, t65_7, t65_8, t65_9, t65_10, t65_13, t65_14, t65_15, t65_16, t65_18, t65_19, t65_20, t65_21, t65_22, t65_25, t65_26, t65_28, t65_29, t65_32, t65_33, t65_34, t65_35, t65_38, t65_41, t65_42, t65_44, t65_45, t65_49, t65_50, t65_51, t65_52, t65_55, t65_57, t65_58, t65_59, t65_60, t65_61, t65_62, t65_64, t65_65, t65_66, t65_67, t65_70, t65_71, t65_73, t65_74, t65_75, t65_76, t65_77, t65_78, t65_81, t65_82, t65_84, t65_85, t65_88, t65_89, t65_90, t65_92, t65_95, t65_98, t65_100, hq, hE, true_or, i03, and_self, ↓reduceIte, z0, hn, lE (show n ≤ 1000000 by omega) (show k ≤ 1000000 by omega), hle, x5, n3, iT (show 5 * k + 3 < 60 by omega) (by decide), cN (show 5 * k + 3 ≤ 1000000 by omega), hro k hk', h, hneg, n1]
        exact ih
  have h1 := lp1 0 (Nat.zero_le _)
  have h2 := lp2 0 (Nat.zero_le _)
  rw [hR2] at h2
  rw [hR1] at h1
  show rn 65 0 [some (.ref q), some (.ref E), some (.ref d), none, none, none] [] M = _
  simp only [t65_0, t65_1, t65_2, t65_3]
  exact h1.trans h2
/-- a state of a round's making is in order -/
def Snd (s : RS) : Prop := TI s.2.2.2.1 s.2.2.2.2 ∧ Six s.2.2.2.2
theorem c_round3 {M : SM} {q E d t n R : Nat} {K F A ro re : Nat → Int32} {nd : Nat → Int64} {lost rp rf : Int64} {D V : Nat → Int32} (hq : mK M q = (1, 3)) (hE : mK M E = (1, 60)) (hk : mK M d = (1, 12)) (ht : mK M t = (1, 12)) (dqE : q ≠ E) (dqt : q ≠ t) (dEt : E ≠ t) (n12 : n ≤ 12)
    (hQ : QR (mI M q) n R lost) (wl : w12 lost) (hEn : EnR (mI M E) K F A ro re n) (hrb : RoB ro n) (hrp : ∀ e, bt rp e = (decide (e < n) && !decide (ro e = -6))) (hD : DeR (mI M d) nd n) (hb : ∀ e, e < n → ∀ k, bt (nd e) k = true → k < e) (hS : EnS K F A n) (hT : TrR (mI M t) D V) (hI : TI D V) (h6 : Six V) {rd : Int64} (hrd : rd = rdyB nd n lost rp) {s : Nat → RS} (hs : s = rrS K F A rd (nI R) (rf, ro, re, D, V)) :
    ∃ E' T', cl 66 [.ref q, .ref E, .ref d, .ref t] M = some (some (.int (nI (cnt (bt rd) 64))), sI (sI (sI M E E') t T') q (va_up (mI M q) 1 (nI (R + 1)))) ∧ EnR E' K F A (s n).2.1 (s n).2.2.1 n ∧ TrR T' (s n).2.2.2.1 (s n).2.2.2.2 ∧ Snd (s n) := by
  have hry := c_ready3 hq hE hk n12 hQ.1 hQ.2.2 wl (fun e he => (hEn e he).2.2.2.1) hrb hrp hD hb
  rw [← hrd] at hry
  have wrd : w12 rd := by rw [hrd]; exact w12_mk n12
  have dEq : E ≠ q := Ne.symm dqE
  have dtq : t ≠ q := Ne.symm dqt
  have dtE : t ≠ E := Ne.symm dEt
  have lp : ∀ m k, m + k = n → ∀ Ek Tk, EnR Ek K F A (s k).2.1 (s k).2.2.1 n → TrR Tk (s k).2.2.2.1 (s k).2.2.2.2 → Snd (s k) →
      ∃ E' T', rn 66 11 [some (.ref q), some (.ref E), some (.ref d), some (.ref t), some (.int (s32 rd)), some (.int (nI k))] [] (sI (sI M E Ek) t Tk) = some (some (.int (nI (cnt (bt rd) 64))), sI (sI (sI M E E') t T') q (va_up (mI M q) 1 (nI (R + 1)))) ∧ EnR E' K F A (s n).2.1 (s n).2.2.1 n ∧ TrR T' (s n).2.2.2.1 (s n).2.2.2.2 ∧ Snd (s n) := by
    intro m
    induction m with
    | zero =>
      intro k hm Ek Tk h1 h2 h3
      obtain rfl : k = n := by omega
      obtain ⟨N, hN⟩ : ∃ N, N = sI (sI M E Ek) t Tk := ⟨_, rfl⟩
      have kN : mK N = mK M := by rw [hN]; rfl
      have nq : mI N q = mI M q := by rw [hN, mI_sI, if_neg dqt, mI_sI, if_neg dqE]
      refine ⟨Ek, Tk, ?_, h1, h2, h3⟩
      rw [← hN, t66_11]
      simp only [t66_0, t66_1, t66_2, t66_3, t66_6, t66_8, t66_9, t66_13, t66_14, t66_15, t66_16, t66_19, t66_21, t66_23, t66_24, t66_25, t66_26, t66_29, t66_32, t66_33, t66_34, t66_36, t66_37, t66_38, t66_39, t66_41, t66_42, t66_43, t66_46, t66_47, t66_48, t66_49, t66_51, t66_52, t66_53, t66_54, t66_55, t66_56, t66_57, t66_58, t66_61, t66_64, t66_65, t66_66, t66_67, t66_68, t66_69, t66_70, t66_71, t66_73, t66_76, kN, mK_sI, hq, true_or, i03, i13, and_self, ↓reduceIte, z0, z1, nq, hQ.1, hQ.2.1, lE (show k ≤ 1000000 by omega) (show k ≤ 1000000 by omega), Nat.le_refl, n1, c_bits3 wrd, cbn_i]
    | succ m ih =>
      intro k hm Ek Tk h1 h2 h3
      have hk' : k < n := by omega
      have hle : ¬ n ≤ k := by omega
      obtain ⟨N, hN⟩ : ∃ N, N = sI (sI M E Ek) t Tk := ⟨_, rfl⟩
      have kN : mK N = mK M := by rw [hN]; rfl
      have nq : mI N q = mI M q := by rw [hN, mI_sI, if_neg dqt, mI_sI, if_neg dqE]
      have nE : mI N E = Ek := by rw [hN, mI_sI, if_neg dEt, mI_sI, if_pos rfl]
      have nt : mI N t = Tk := by rw [hN, mI_sI, if_pos rfl]
      have z01 : ((0 : Int32) = 1) = False := by decide
      cases hb' : bt rd k with
      | false =>
        have hsk : s (k + 1) = s k := by rw [hs]; exact rrS_no hb'
        obtain ⟨E', T', g1, g2⟩ := ih (k + 1) (by omega) Ek Tk (by rw [hsk]; exact h1) (by rw [hsk]; exact h2) (by rw [hsk]; exact h3)
        refine ⟨E', T', ?_, g2⟩
        rw [← hN] at g1 ⊢
        rw [t66_11]
        simp only [t66_0, t66_1, t66_2, t66_3, t66_6, t66_8, t66_9, t66_13, t66_14, t66_15, t66_16, t66_19, t66_21, t66_23, t66_24, t66_25, t66_26, t66_29, t66_32, t66_33, t66_34, t66_36, t66_37, t66_38, t66_39, t66_41, t66_42, t66_43, t66_46, t66_47, t66_48, t66_49, t66_51, t66_52, t66_53, t66_54, t66_55, t66_56, t66_57, t66_58, t66_61, t66_64, t66_65, t66_66, t66_67, t66_68, t66_69, t66_70, t66_71, t66_73, t66_76, kN, hq, true_or, i03, and_self, ↓reduceIte, z0, nq, hQ.1, lE (show n ≤ 1000000 by omega) (show k ≤ 1000000 by omega), hle, b3_read (show k < 32 by omega), b3_w wrd, hb', Bool.false_eq_true, z01, not_false_eq_true, n1]
        exact g1
      | true =>
        obtain ⟨ok, eK, eF⟩ := hS k hk'
        obtain ⟨r0, r1, r2, r3, r4⟩ := h1 k hk'
        obtain ⟨T2, p1, p2⟩ := c_play3 (M := N) (E := E) (t := t) (e := k) (kd := (K k).toNatClampNeg) (f := (F k).toNatClampNeg) (a := A k) (D := (s k).2.2.2.1) (V := (s k).2.2.2.2) (by rw [kN]; exact hE) (by rw [kN]; exact ht) (by omega) (by rw [nE, r0]; exact eK) (by rw [nE, r1]; exact eF) (by rw [nE]; exact r2) ok (by rw [nt]; exact h2) h3.1 h3.2
        obtain ⟨x, hx⟩ : ∃ x, x = rfs (s k).2.2.2.1 (s k).2.2.2.2 (K k).toNatClampNeg (F k).toNatClampNeg (A k) := ⟨_, rfl⟩
        rw [← hx] at p1 p2
        have hsk : s (k + 1) = (if x = 0 then (s k).1 else (s k).1 ||| bE k, va_up (s k).2.1 k (nI R), va_up (s k).2.2.1 k x, if x = 0 then pD (s k).2.2.2.1 (K k).toNatClampNeg (F k).toNatClampNeg (A k) else (s k).2.2.2.1, if x = 0 then pV (s k).2.2.2.2 (K k).toNatClampNeg (F k).toNatClampNeg (A k) else (s k).2.2.2.2) := by
          rw [hx, hs]; exact rrS_yes hb'
        have h3' : Snd (s (k + 1)) := by
          rw [hsk]
          by_cases q0 : x = 0
          · simp only [Snd, if_pos q0]
            exact ⟨TI_play h3.1 ok.1 (hx.symm.trans q0), Six_play h3.2 ok.2.1⟩
          · simp only [Snd, if_neg q0]
            exact h3
        obtain ⟨E', T', g1, g2⟩ := ih (k + 1) (by omega) (va_up (va_up Ek (5 * k + 4) x) (5 * k + 3) (nI R)) T2 (by rw [hsk]; exact EnR_up h1 _ _) (by rw [hsk]; exact p2) h3'
        refine ⟨E', T', ?_, g2⟩
        obtain ⟨N2, hN2⟩ : ∃ N2, N2 = sI N t T2 := ⟨_, rfl⟩
        have k2 : mK N2 = mK M := by rw [hN2]; exact kN
        have n2E : mI N2 E = Ek := by rw [hN2, mI_sI, if_neg dEt]; exact nE
        have n2q : mI N2 q = mI M q := by rw [hN2, mI_sI, if_neg dqt]; exact nq
        have fin : ∀ X, sI N2 E X = sI (sI M E X) t T2 := fun X => by
          rw [hN2, hN, sI_sI, sI_comm _ dtE, sI_sI]
        rw [← hN2] at p1
        rw [← fin] at g1
        have i54 : inR (nI (5 * k + 4)) 60 = True := iT (by omega) (by decide)
        have i53 : inR (nI (5 * k + 3)) 60 = True := iT (by omega) (by decide)
        rw [← hN, t66_11]
        simp only [t66_0, t66_1, t66_2, t66_3, t66_6, t66_8, t66_9, t66_13, t66_14, t66_15, t66_16, t66_19, t66_21, t66_23, t66_24, t66_25, t66_26, t66_29, t66_32, t66_33, t66_34, t66_36, t66_37, t66_38, t66_39, t66_41, t66_42, t66_43, t66_46, t66_47, t66_48, t66_49, t66_51, t66_52, t66_53, t66_54, t66_55, t66_56, t66_57, t66_58, t66_61, t66_64, t66_65, t66_66, t66_67, t66_68, t66_69, t66_70, t66_71, t66_73, t66_76, kN, k2, mK_sI, hq, hE, true_or, i03, i13, and_self, ↓reduceIte, z0, z1, nq, n2q, mI_sI, dqE, hQ.1, hQ.2.1, lE (show n ≤ 1000000 by omega) (show k ≤ 1000000 by omega), hle, b3_read (show k < 32 by omega), b3_w wrd, hb', not_true_eq_false, x5, n3, n4, p1, cbn_i, i54, i53, cN (show 5 * k + 4 ≤ 1000000 by omega), cN (show 5 * k + 3 ≤ 1000000 by omega), n2E, sI_sI, n1]
        exact g1
  have hs0 : s 0 = (rf, ro, re, D, V) := by rw [hs]; rfl
  obtain ⟨E', T', g1, g2⟩ := lp n 0 (by omega) (mI M E) (mI M t) (by rw [hs0]; exact hEn) (by rw [hs0]; exact hT) (by rw [hs0]; exact ⟨hI, h6⟩)
  refine ⟨E', T', ?_, g2⟩
  have e0 : sI (sI M E (mI M E)) t (mI M t) = M := by rw [sI_self, sI_self]
  rw [e0] at g1
  show rn 66 0 [some (.ref q), some (.ref E), some (.ref d), some (.ref t), none, none] [] M = _
  simp only [t66_0, t66_1, t66_2, t66_3, hry, cbn_i, t66_6, t66_8, t66_9]
  exact g1
theorem c_anew3 {M : SM} {q E t n : Nat} {K F A ro re : Nat → Int32} (hq : mK M q = (1, 3)) (hE : mK M E = (1, 60)) (ht : mK M t = (1, 12)) (dqE : q ≠ E) (dqt : q ≠ t) (dEt : E ≠ t) (n12 : n ≤ 12) (hn : mI M q 0 = nI n) (hEn : EnR (mI M E) K F A ro re n) :
    ∃ E' T', cl 68 [.ref q, .ref E, .ref t] M = some (none, sI (sI (sI M E E') q (va_up (mI M q) 1 0)) t T') ∧ EnR E' K F A (fun _ => -6) (fun _ => -6) n ∧ TrR T' D0 V0 := by
  have lp : ∀ m k, m + k = n → ∀ Ek, (∀ e, e < n → Ek (5 * e) = K e ∧ Ek (5 * e + 1) = F e ∧ Ek (5 * e + 2) = A e) → (∀ e, e < k → Ek (5 * e + 3) = -6 ∧ Ek (5 * e + 4) = -6) →
      ∃ E' T', rn 68 2 [some (.ref q), some (.ref E), some (.ref t), some (.int (nI k))] [] (sI M E Ek) = some (none, sI (sI (sI M E E') q (va_up (mI M q) 1 0)) t T') ∧ EnR E' K F A (fun _ => -6) (fun _ => -6) n ∧ TrR T' D0 V0 := by
    intro m
    induction m with
    | zero =>
      intro k hm Ek h1 h2
      obtain rfl : k = n := by omega
      obtain ⟨N, hN⟩ : ∃ N, N = sI M E Ek := ⟨_, rfl⟩
      have kN : mK N = mK M := by rw [hN]; rfl
      have nq : mI N q = mI M q := by rw [hN, mI_sI, if_neg dqE]
      obtain ⟨T, g1, g2⟩ := c_root3 (M := sI N q (va_up (mI M q) 1 0)) (t := t) (by rw [mK_sI, kN]; exact ht)
      refine ⟨Ek, T, ?_, fun e he => ⟨(h1 e he).1, (h1 e he).2.1, (h1 e he).2.2, (h2 e he).1, (h2 e he).2⟩, g2⟩
      rw [← hN, t68_2]
      simp only [t68_0, t68_1, t68_3, t68_4, t68_5, t68_6, t68_9, t68_10, t68_11, t68_12, t68_13, t68_14, t68_15, t68_17, t68_18, t68_19, t68_20, t68_21, t68_22, t68_23, t68_24, t68_26, t68_27, t68_30, t68_33, t68_34, t68_35, t68_36, t68_37, t68_38, t68_41, kN, mK_sI, hq, true_or, i03, i13, and_self, ↓reduceIte, z0, z1, nq, hn, lE (show k ≤ 1000000 by omega) (show k ≤ 1000000 by omega), Nat.le_refl, g1, cbn_v]
    | succ m ih =>
      intro k hm Ek h1 h2
      have hle : ¬ n ≤ k := by omega
      obtain ⟨N, hN⟩ : ∃ N, N = sI M E Ek := ⟨_, rfl⟩
      have kN : mK N = mK M := by rw [hN]; rfl
      have nq : mI N q = mI M q := by rw [hN, mI_sI, if_neg dqE]
      have nE : mI N E = Ek := by rw [hN, mI_sI, if_pos rfl]
      obtain ⟨E', T', g1, g2⟩ := ih (k + 1) (by omega) (va_up (va_up Ek (5 * k + 3) (-6)) (5 * k + 4) (-6)) (fun e he => by
        rw [va_up_ne _ _ (show 5 * e ≠ 5 * k + 4 by omega), va_up_ne _ _ (show 5 * e ≠ 5 * k + 3 by omega), va_up_ne _ _ (show 5 * e + 1 ≠ 5 * k + 4 by omega), va_up_ne _ _ (show 5 * e + 1 ≠ 5 * k + 3 by omega), va_up_ne _ _ (show 5 * e + 2 ≠ 5 * k + 4 by omega), va_up_ne _ _ (show 5 * e + 2 ≠ 5 * k + 3 by omega)]
        exact h1 e he) (fun e he => by
        by_cases q : e = k
        · subst q
          rw [va_up_ne _ _ (show 5 * e + 3 ≠ 5 * e + 4 by omega), va_up_self, va_up_self]
          exact ⟨rfl, rfl⟩
        · rw [va_up_ne _ _ (show 5 * e + 3 ≠ 5 * k + 4 by omega), va_up_ne _ _ (show 5 * e + 3 ≠ 5 * k + 3 by omega), va_up_ne _ _ (show 5 * e + 4 ≠ 5 * k + 4 by omega), va_up_ne _ _ (show 5 * e + 4 ≠ 5 * k + 3 by omega)]
          exact h2 e (by omega))
      refine ⟨E', T', ?_, g2⟩
      have fin : ∀ X, sI N E X = sI M E X := fun X => by rw [hN, sI_sI]
      rw [← fin] at g1
      have i54 : inR (nI (5 * k + 4)) 60 = True := iT (by omega) (by decide)
      have i53 : inR (nI (5 * k + 3)) 60 = True := iT (by omega) (by decide)
      rw [← hN, t68_2]
      simp only [t68_0, t68_1, t68_3, t68_4, t68_5, t68_6, t68_9, t68_10, t68_11, t68_12, t68_13, t68_14, t68_15, t68_17, t68_18, t68_19, t68_20, t68_21, t68_22, t68_23, t68_24, t68_26, t68_27, t68_30, t68_33, t68_34, t68_35, t68_36, t68_37, t68_38, t68_41, kN, mK_sI, hq, hE, true_or, i03, and_self, ↓reduceIte, z0, nq, hn, lE (show n ≤ 1000000 by omega) (show k ≤ 1000000 by omega), hle, x5, n3, n4, i54, i53, cN (show 5 * k + 4 ≤ 1000000 by omega), cN (show 5 * k + 3 ≤ 1000000 by omega), nE, mI_sI, sI_sI, n1]
      exact g1
  obtain ⟨E', T', g1, g2⟩ := lp n 0 (by omega) (mI M E) (fun e he => ⟨(hEn e he).1, (hEn e he).2.1, (hEn e he).2.2.1⟩) (fun e he => by omega)
  refine ⟨E', T', ?_, g2⟩
  rw [sI_self] at g1
  show rn 68 0 [some (.ref q), some (.ref E), some (.ref t), none] [] M = _
  simp only [t68_0, t68_1]
  exact g1
