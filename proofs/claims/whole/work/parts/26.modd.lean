/-! the reference: rows copied, its history, its tree emptied -/
/-- n places from j on are those of g from i on -/
def blk (f : Nat → Int32) (j : Nat) (g : Nat → Int32) (i n : Nat) : Nat → Int32 := fun x => if j ≤ x ∧ x < j + n then g (i + (x - j)) else f x
theorem blk_0 (f : Nat → Int32) (j : Nat) (g : Nat → Int32) (i : Nat) : blk f j g i 0 = f := by
  funext x
  unfold blk
  rw [if_neg (by omega)]
theorem blk_up (f : Nat → Int32) (j : Nat) (g : Nat → Int32) (i n : Nat) : va_up (blk f j g i n) (j + n) (g (i + n)) = blk f j g i (n + 1) := by
  funext x
  unfold va_up blk
  by_cases h : x = j + n
  · subst h
    rw [if_pos rfl, if_pos (by omega)]
    congr 1
    omega
  · rw [if_neg h]
    by_cases h2 : j ≤ x ∧ x < j + n
    · rw [if_pos h2, if_pos (by omega)]
    · rw [if_neg h2, if_neg (by omega)]
theorem ModAt.sI {M : SM} {m : Nat} (h : ModAt M m) (a : Nat) (f : Nat → Int32) : ModAt (sI M a f) m := h
theorem ModAt.sJ {M : SM} {m : Nat} (h : ModAt M m) (a : Nat) (f : Nat → Int64) : ModAt (sJ M a f) m := h
theorem c_moves {M : SM} {a b la lb i j : Nat} (ha : mK M a = (1, la)) (hb : mK M b = (1, lb)) (hne : a ≠ b) (hi : i + 370 ≤ la) (hj : j + 370 ≤ lb) (hla : la < 100000) (hlb : lb < 100000) :
    cl 107 [.ref a, .int (nI i), .ref b, .int (nI j)] M = some (none, sI M b (blk (mI M b) j (mI M a) i 370)) := by
  show rn 107 0 [some (.ref a), some (.int (nI i)), some (.ref b), some (.int (nI j)), none] [] M = _
  generalize hN : sI M b (blk (mI M b) j (mI M a) i 370) = N
  have lp : ∀ k, k ≤ 370 → rn 107 3 [some (.ref a), some (.int (nI i)), some (.ref b), some (.int (nI j)), some (.int (nI k))] [] (sI M b (blk (mI M b) j (mI M a) i k)) = some (none, N) := by
    refine loopB ?_ ?_
    · rw [t107_3]
      have e : ((370 : Int32) ≤ nI 370) = True := eq_true (by decide)
      simp only [t107_0, t107_1, t107_5, t107_8, t107_11, t107_12, t107_13, t107_15, t107_16, t107_17, t107_18, t107_20, t107_21, t107_22, t107_23, t107_26, t107_29, e, ↓reduceIte, hN]
    · intro k hk ih
      rw [t107_3]
      have e0 : ((370 : Int32) ≤ nI k) = (370 ≤ k) := i_le (a := 370) (by decide) (by omega)
      have e : ((370 : Int32) ≤ nI k) = False := e0.trans (eq_false (by omega))
      have ja : inR (nI (i + k)) la = True := i_inT (by omega) (by omega)
      have jb : inR (nI (j + k)) lb = True := i_inT (by omega) (by omega)
      simp only [t107_0, t107_1, t107_5, t107_8, t107_11, t107_12, t107_13, t107_15, t107_16, t107_17, t107_18, t107_20, t107_21, t107_22, t107_23, t107_26, t107_29, e, ↓reduceIte, nI_add, mK_sI, ha, hb, ja, jb, true_or, and_self, nI_c (show i + k < 2147483648 by omega), nI_c (show j + k < 2147483648 by omega), mI_sI, hne, sI_sI, blk_up, n1]
      exact ih
  have h0 := lp 0 (by decide)
  rw [blk_0, sI_self] at h0
  simp only [t107_0, t107_1, t107_5, t107_8, t107_11, t107_12, t107_13, t107_15, t107_16, t107_17, t107_18, t107_20, t107_21, t107_22, t107_23, t107_26, t107_29]
  exact h0
/-- the history after one state more -/
def rcH (f g : Nat → Int32) (t : Nat) : Nat → Int32 := if t = 6 then blk (fun x => if x < 1850 then f (x + 370) else f x) 1850 g 0 370 else blk f (370 * t) g 0 370
def rcT (t : Nat) : Nat := if t = 6 then 6 else t + 1
def rcM (M : SM) (m t : Nat) : SM := sI (sI M (m + 3) (rcH (mI M (m + 3)) (mI M (m + 1)) t)) m (va_up (mI M m) 3 (nI (rcT t)))
theorem va_up2 (f : Nat → Int32) (k : Nat) (x y : Int32) : va_up (va_up f k x) k y = va_up f k y := by
  funext j
  unfold va_up
  by_cases h : j = k <;> simp [h]
theorem c_record {M : SM} {m t : Nat} (h : ModAt M m) (ht : mI M m 3 = nI t) (h6 : t ≤ 6) : cl 106 [.ref m] M = some (none, rcM M m t) := by
  show rn 106 0 [some (.ref m), none] [] M = _
  have hm := h
  obtain ⟨h1, h2, h3, h4, -, -, -, -, -, -, k1, k2, k3, -⟩ := h
  by_cases t6 : t = 6
  · subst t6
    have e6 : (nI 6 = 6) = True := eq_true rfl
    generalize hF : (fun x => if x < 1850 then mI M (m + 3) (x + 370) else mI M (m + 3) x) = F
    generalize hX : rn 106 40 [some (.ref m), some (.int (nI 1850))] [] (sI M (m + 3) F) = X
    have lp : ∀ k, k ≤ 1850 → rn 106 11 [some (.ref m), some (.int (nI k))] [] (sI M (m + 3) (fun x => if x < k then mI M (m + 3) (x + 370) else mI M (m + 3) x)) = X := by
      refine loopB ?_ ?_
      · rw [t106_11]
        have e : ((1850 : Int32) ≤ nI 1850) = True := eq_true (by decide)
        simp only [t106_12, t106_15, e, ↓reduceIte, hF, hX]
      · intro k hk ih
        rw [t106_11]
        have e0 : ((1850 : Int32) ≤ nI k) = (1850 ≤ k) := i_le (a := 1850) (by decide) (by omega)
        have e : ((1850 : Int32) ≤ nI k) = False := e0.trans (eq_false (by omega))
        have ja : inR (nI k) 2220 = True := i_inT (by omega) (by omega)
        have jb : inR (nI (k + 370)) 2220 = True := i_inT (by omega) (by omega)
        have c : nI k + 370 = nI (k + 370) := nI_add k 370
        have hup : va_up (fun x => if x < k then mI M (m + 3) (x + 370) else mI M (m + 3) x) k (mI M (m + 3) (k + 370)) = fun x => if x < k + 1 then mI M (m + 3) (x + 370) else mI M (m + 3) x := by
          funext x
          unfold va_up
          by_cases q : x = k
          · subst q; simp
          · by_cases q2 : x < k
            · simp [q, q2, show x < k + 1 by omega]
            · simp [q, q2, show ¬ x < k + 1 by omega]
        have hlt : ¬ k + 370 < k := by omega
        simp only [t106_0, t106_1, t106_4, t106_6, t106_9, t106_10, t106_12, t106_15, t106_18, t106_19, t106_22, t106_23, t106_24, t106_27, t106_28, t106_31, t106_32, t106_33, t106_34, t106_37, t106_40, t106_41, t106_42, t106_45, t106_46, t106_47, t106_50, t106_51, t106_54, t106_55, t106_56, t106_59, t106_60, t106_63, t106_66, t106_67, t106_70, t106_71, t106_72, t106_75, t106_76, t106_77, t106_80, e, ↓reduceIte, mK_sI, mP_sI, h1, h4, va_rf_s, k3, c, ja, jb, true_or, and_self, nI_c (show k < 2147483648 by omega), nI_c (show k + 370 < 2147483648 by omega), mI_sI, sI_sI, hlt, hup, n1]
        exact ih
    have h0 := lp 0 (by decide)
    have z : (fun x => if x < 0 then mI M (m + 3) (x + 370) else mI M (m + 3) x) = mI M (m + 3) := by
      funext x; rw [if_neg (by omega)]
    rw [z, sI_self, show nI 0 = 0 from rfl, ← hX] at h0
    have nb : m ≠ m + 3 := by omega
    have nc : m + 1 ≠ m + 3 := by omega
    have nd : m + 1 ≠ m := by omega
    have ne : m + 3 ≠ m := by omega
    have c5 : nI 6 - 1 = nI 5 := rfl
    have cm : nI 5 * 370 = nI 1850 := rfl
    have c6 : nI 5 + 1 = nI 6 := rfl
    obtain ⟨N, hN⟩ : ∃ N, N = sI (sI M (m + 3) F) m (va_up (mI M m) 3 (nI 5)) := ⟨_, rfl⟩
    have mv := c_moves (M := N) (a := m + 1) (b := m + 3) (la := 370) (lb := 2220) (i := 0) (j := 1850) (by rw [hN]; exact k1) (by rw [hN]; exact k3) nc (by decide) (by decide) (by decide) (by decide)
    rw [show nI 0 = 0 from rfl] at mv
    have hz : inR 3 4 = True := eq_true (by decide)
    simp only [t106_0, t106_1, t106_4, t106_6, t106_9, t106_10, h1, ht, e6, ↓reduceIte, not_true_eq_false]
    rw [h0]
    simp only [t106_0, t106_1, t106_4, t106_6, t106_9, t106_10, t106_12, t106_15, t106_18, t106_19, t106_22, t106_23, t106_24, t106_27, t106_28, t106_31, t106_32, t106_33, t106_34, t106_37, t106_40, t106_41, t106_42, t106_45, t106_46, t106_47, t106_50, t106_51, t106_54, t106_55, t106_56, t106_59, t106_60, t106_63, t106_66, t106_67, t106_70, t106_71, t106_72, t106_75, t106_76, t106_77, t106_80, mK_sI, mP_sI, h1, h2, h4, mI_sI, nb, ↓reduceIte, ht, c5, va_rf_s, va_up_self, cm]
    rw [← hN, mv]
    subst hN
    simp only [cbn_v, t106_0, t106_1, t106_4, t106_6, t106_9, t106_10, t106_12, t106_15, t106_18, t106_19, t106_22, t106_23, t106_24, t106_27, t106_28, t106_31, t106_32, t106_33, t106_34, t106_37, t106_40, t106_41, t106_42, t106_45, t106_46, t106_47, t106_50, t106_51, t106_54, t106_55, t106_56, t106_59, t106_60, t106_63, t106_66, t106_67, t106_70, t106_71, t106_72, t106_75, t106_76, t106_77, t106_80, mK_sI, mP_sI, h1, mI_sI, nb, nd, nc, ne, ↓reduceIte, va_up_self, c6, va_up2]
    refine congrArg (fun x => some (none, x)) ?_
    refine sm_ext rfl ?_ ?_
    · intro b
      simp only [rcM, rcH, rcT, mI_sI, ↓reduceIte, hF]
      by_cases q : b = m
      · simp [q]
      · by_cases q2 : b = m + 3 <;> simp [q, q2]
    · intro b; rfl
  · have n6 : (nI t = 6) = False := by rw [show (6 : Int32) = nI 6 from rfl, nI_inj (by omega) (by omega)]; exact eq_false t6
    have cm : nI t * 370 = nI (370 * t) := by rw [show (370 : Int32) = nI 370 from rfl, pk_mul, Nat.mul_comm]
    have nb : m ≠ m + 3 := by omega
    have mv := c_moves (M := M) (a := m + 1) (b := m + 3) (la := 370) (lb := 2220) (i := 0) (j := 370 * t) k1 k3 (by omega) (by decide) (by omega) (by decide) (by decide)
    rw [show nI 0 = 0 from rfl] at mv
    simp only [t106_0, t106_1, t106_4, t106_6, t106_9, t106_10, t106_12, t106_15, t106_18, t106_19, t106_22, t106_23, t106_24, t106_27, t106_28, t106_31, t106_32, t106_33, t106_34, t106_37, t106_40, t106_41, t106_42, t106_45, t106_46, t106_47, t106_50, t106_51, t106_54, t106_55, t106_56, t106_59, t106_60, t106_63, t106_66, t106_67, t106_70, t106_71, t106_72, t106_75, t106_76, t106_77, t106_80, h1, ht, n6, ↓reduceIte, not_false_eq_true, h2, h4, va_rf_s, cm, mv, cbn_v, mK_sI, mI_sI, nb, n1, rcM, rcH, rcT, t6]
/-- the tree of the beginning -/
def D0 : Nat → Int32 := fun _ => -6
def V0 : Nat → Int32 := fun f => if f = 0 then 0 else -6
theorem TI_0 : TI D0 V0 := by
  refine ⟨rfl, rfl, fun _ _ _ => rfl, ?_, ?_⟩
  · intro f h0 hf hv
    exact absurd (show V0 f = -6 by unfold V0; rw [if_neg (by omega)]) hv
  · intro f hf
    exact trm_le (n := 2) (Or.inr ⟨isF_n hf, Or.inl rfl⟩) (by decide)
theorem c_emptyTree {M : SM} {m : Nat} (h : ModAt M m) : ∃ W, cl 100 [.ref m] M = some (none, sI M (m + 1) W) ∧ (∀ j, j < 322 → W j = mI M (m + 1) j) ∧ TR W D0 V0 := by
  show ∃ W, rn 100 0 [some (.ref m), none] [] M = _ ∧ _
  have h1 := h.1
  have lp : ∀ k, k ≤ 16 → ∀ w, (∀ j, j < 322 → w j = mI M (m + 1) j) → (∀ f, f < k → w (322 + 3 * f) = (if V0 f = -6 then 0 else 1) ∧ w (322 + 3 * f + 1) = D0 f ∧ w (322 + 3 * f + 2) = V0 f) →
      ∃ W, rn 100 2 [some (.ref m), some (.int (nI k))] [] (sI M (m + 1) w) = some (none, sI M (m + 1) W) ∧ (∀ j, j < 322 → W j = mI M (m + 1) j) ∧ TR W D0 V0 := by
    refine loopB ?_ ?_
    · intro w hw ht
      refine ⟨w, ?_, hw, ht⟩
      rw [t100_2]
      simp only [t100_0, t100_1, t100_3, t100_5, t100_8, t100_9, t100_10, t100_11, t100_14, t100_15, t100_18, t100_19, t100_21, t100_22, t100_25, t100_26, t100_29, t100_31, t100_34, t100_37, t100_40, le16 (show 16 < 2147483648 by omega), Nat.le_refl, ↓reduceIte]
    · intro k hk ih w hw ht
      have sf := fun x y z => c_setFile (h.sI (m + 1) w) hk x y z
      simp only [mI_sI, ↓reduceIte, sI_sI] at sf
      have hle : ¬ 16 ≤ k := by omega
      have nx := ih (rowF w k (if V0 k = -6 then 0 else 1) (D0 k) (V0 k)) (fun j hj => by rw [rowF_lo hj]; exact hw j hj) (by
        intro f hf
        by_cases q : f = k
        · subst q
          unfold rowF
          refine ⟨?_, ?_, ?_⟩
          · rw [va_up_ne _ _ (by omega), va_up_ne _ _ (by omega), va_up_self]
          · rw [va_up_ne _ _ (by omega), va_up_self]
          · rw [va_up_self]
        · obtain ⟨t1, t2, t3⟩ := ht f (by omega)
          unfold rowF
          refine ⟨?_, ?_, ?_⟩ <;> rw [va_up_ne _ _ (by omega), va_up_ne _ _ (by omega), va_up_ne _ _ (by omega)] <;> assumption)
      rw [t100_2]
      by_cases q : k = 0
      · subst q
        rw [show (if V0 0 = -6 then (0 : Int32) else 1) = 1 from rfl, show D0 0 = -6 from rfl, show V0 0 = 0 from rfl] at nx
        rw [show nI 0 = 0 from rfl] at sf ⊢
        simp only [t100_0, t100_1, t100_3, t100_5, t100_8, t100_9, t100_10, t100_11, t100_14, t100_15, t100_18, t100_19, t100_21, t100_22, t100_25, t100_26, t100_29, t100_31, t100_34, t100_37, t100_40, (by decide : ((16 : Int32) ≤ 0) = False), ↓reduceIte, mK_sI, h1, sf, cbn_v, not_true_eq_false]
        exact nx
      · have z : (nI k = 0) = False := by rw [show (0 : Int32) = nI 0 from rfl, nI_inj (by omega) (by omega)]; exact eq_false q
        have v0 : V0 k = -6 := by unfold V0; rw [if_neg q]
        rw [v0, show D0 k = -6 from rfl, if_pos rfl] at nx
        simp only [t100_0, t100_1, t100_3, t100_5, t100_8, t100_9, t100_10, t100_11, t100_14, t100_15, t100_18, t100_19, t100_21, t100_22, t100_25, t100_26, t100_29, t100_31, t100_34, t100_37, t100_40, le16 (show k < 2147483648 by omega), hle, ↓reduceIte, mK_sI, h1, sf, cbn_v, z, not_false_eq_true, n1]
        exact nx
  have h0 := lp 0 (by decide) (mI M (m + 1)) (fun _ _ => rfl) (fun f hf => by omega)
  rw [sI_self] at h0
  simp only [t100_0, t100_1, t100_3, t100_5, t100_8, t100_9, t100_10, t100_11, t100_14, t100_15, t100_18, t100_19, t100_21, t100_22, t100_25, t100_26, t100_29, t100_31, t100_34, t100_37, t100_40]
  exact h0
