/-! what leans: the same on both sides -/
theorem leanT_lo {nd g : Nat → Int64} : ∀ (n e : Nat), e < n → leanT nd g 0 n e = orL (nd e) (leanT nd g 0 n) e := by
  intro n
  induction n with
  | zero => intro e he; omega
  | succ n ih =>
    intro e he
    have hu : leanT nd g 0 (n + 1) = va_up (leanT nd g 0 n) n (orL (nd n) (leanT nd g 0 n) n) := by
      show va_up _ (0 + n) (orL (nd (0 + n)) _ (0 + n)) = _
      rw [Nat.zero_add]
    rw [hu]
    by_cases q : e = n
    · subst q
      rw [va_up_self]
      exact orL_cong (fun k hk => by rw [va_up_ne _ _ (by omega)])
    · rw [va_up_ne _ _ q, ih e (by omega)]
      exact orL_cong (fun k hk => by rw [va_up_ne _ _ (by omega)])
theorem lean_one {nd g g' : Nat → Int64} {n : Nat} (h : ∀ e, e < n → g e = orL (nd e) g e) (h' : ∀ e, e < n → g' e = orL (nd e) g' e) : ∀ e, e < n → g e = g' e := by
  intro e
  induction e using Nat.strongRecOn with
  | _ e ih =>
    intro he
    rw [h e he, h' e he]
    exact orL_cong (fun k hk => ih k hk (by omega))
theorem orL_nd {x x' : Int64} {g : Nat → Int64} (h : x = x') (n : Nat) : orL x g n = orL x' g n := by rw [h]
theorem rG_eq {C M : SM} {h m n : Nat} (hL : LR C h (mI M (m + 1)) n) : ∀ e, e < n → rG M m n e = mJ C (h + 5) e := by
  obtain ⟨-, n40, w0, ok, row, lst, lsn, nds, ndb, lns⟩ := hL
  refine lean_one (nd := mJ C (h + 4)) ?_ lns
  intro e he
  unfold rG
  rw [leanT_lo n e he, nds e he]
theorem orpB_cong {g g' : Nat → Int64} {n : Nat} (h : ∀ e, e < n → g e = g' e) (x : Int64) : orpB g n x = orpB g' n x := by
  unfold orpB
  rw [mk_cong (q := fun e => !decide (g' e &&& x = 0)) (fun e he => by rw [h e he])]
theorem c_orphansRel {C M : SM} {h m n : Nat} (hm : ModAt M m) (hL : LR C h (mI M (m + 1)) n) (x : Int64) : cl 130 [.ref m, .long x] M = some (some (.long (orpB (mJ C (h + 5)) n x)), flM M m n) := by
  rw [c_orphansBy hm hL.2.2.1 hL.2.1 x, orpB_cong (rG_eq hL) x]
theorem flM_I (M : SM) (m n a : Nat) : mI (flM M m n) a = mI M a := rfl
theorem flM_st (M : SM) (m n : Nat) : (flM M m n).2.2 = M.2.2 := rfl
theorem flM_J {M : SM} {m n a : Nat} (h : a ≠ m + 7) : mJ (flM M m n) a = mJ M a := by
  unfold flM
  rw [mJ_sJ, if_neg h]
theorem orL_b {x : Int64} {g : Nat → Int64} {i : Nat} : ∀ n, bt (orL x g n) i = true → bt x i = true ∨ ∃ k, k < n ∧ bt (g k) i = true := by
  intro n
  induction n with
  | zero => intro h; exact Or.inl h
  | succ n ih =>
    intro h
    unfold orL at h
    split at h
    · rw [bt_or, Bool.or_eq_true] at h
      rcases h with h | h
      · rcases ih h with h | ⟨k, hk, h⟩
        · exact Or.inl h
        · exact Or.inr ⟨k, by omega, h⟩
      · exact Or.inr ⟨n, by omega, h⟩
    · rcases ih h with h | ⟨k, hk, h⟩
      · exact Or.inl h
      · exact Or.inr ⟨k, by omega, h⟩
theorem lns_b {K F A : Nat → Int32} {nd ln : Nat → Int64} {lost : Int64} {w : Nat → Int32} {n : Nat} (hL : LRel K F A nd ln lost w n) : ∀ e, e < n → ∀ k, bt (ln e) k = true → k < e := by
  obtain ⟨n40, w0, ok, row, lst, lsn, nds, ndb, lns⟩ := hL
  intro e
  induction e using Nat.strongRecOn with
  | _ e ih =>
    intro he k hk
    rw [lns e he] at hk
    rcases orL_b e hk with h | ⟨j, hj, h⟩
    · exact ndb e he k h
    · have := ih j hj (by omega) k h
      omega
theorem c_leanOn {M : SM} {m n e : Nat} (h : ModAt M m) (hn : mI M (m + 1) 0 = nI n) (h40 : n ≤ 40) (he : e < 40) : cl 147 [.ref m, .int (nI e)] M = some (some (.int (nI (cnt (fun k => bt (rG M m n k) e) n))), flM M m n) := by
  show rn 147 0 [some (.ref m), some (.int (nI e)), none, none] [] M = _
  have hm := h
  obtain ⟨h1, h2, -, -, -, -, -, h8, -, -, k1, -, -, -, -, -, k7, -⟩ := h
  have hin : inR 0 370 = True := eq_true (by decide)
  have e1 : (0 : Int32).toNatClampNeg = 0 := by decide
  have hf := c_findLeans hm hn h40
  generalize hw : mI M (m + 1) = w at hn
  obtain ⟨g, hg⟩ : ∃ g, g = rG M m n := ⟨_, rfl⟩
  have hfm : flM M m n = sJ M (m + 7) g := by rw [hg]; rfl
  have hf : cl 131 [.ref m] M = some (none, sJ M (m + 7) g) := by rw [hf, hg]; rfl
  rw [hfm, ← hg]
  generalize hpp : (fun k => bt (g k) e) = p
  have hpk : ∀ k, p k = bt (g k) e := fun k => by rw [← hpp]
  generalize hR : cnt p n = R
  have lp : ∀ k, k ≤ n → rn 147 8 [some (.ref m), some (.int (nI e)), some (.int (nI (cnt p k))), some (.int (nI k))] [] (sJ M (m + 7) g) = some (some (.int (nI R)), sJ M (m + 7) g) := by
    refine loopB ?_ ?_
    · rw [t147_8]
      simp only [t147_0, t147_1, t147_4, t147_5, t147_6, t147_7, t147_9, t147_10, t147_13, t147_14, t147_15, t147_18, t147_19, t147_20, t147_23, t147_24, t147_25, t147_26, t147_27, t147_28, t147_29, t147_30, t147_31, t147_32, t147_35, t147_38, t147_39, mK_sJ, mP_sJ, mI_sJ, h1, h2, va_rf_s, ↓reduceIte, k1, hin, e1, true_or, and_self, hw, hn, leN n (show n < 2147483648 by omega) (show n < 2147483648 by omega), Nat.le_refl, hR]
    · intro k hk ih
      rw [t147_8]
      have hle : ¬ n ≤ k := by omega
      have hpk := hpk k
      have kk : inR (nI k) 40 = True := i_inT (by omega) (by decide)
      have a1 : (1 : Int64).toInt32 = 1 := by decide
      have a0 : (0 : Int64).toInt32 = 0 := by decide
      cases hb : bt (g k) e <;> rw [hb] at hpk <;>
        simp only [t147_0, t147_1, t147_4, t147_5, t147_6, t147_7, t147_9, t147_10, t147_13, t147_14, t147_15, t147_18, t147_19, t147_20, t147_23, t147_24, t147_25, t147_26, t147_27, t147_28, t147_29, t147_30, t147_31, t147_32, t147_35, t147_38, t147_39, mK_sJ, mP_sJ, mI_sJ, mJ_sJ, h1, h2, h8, k7, kk, va_rf_s, ↓reduceIte, k1, hin, e1, true_or, and_self, hw, hn, leN n (show n < 2147483648 by omega) (show k < 2147483648 by omega), hle, bt_read (show e < 64 by omega), hb, nI_c (show k < 2147483648 by omega), Bool.false_eq_true, a0, a1, Int32.add_zero, n1] <;>
        simpa only [cnt, hpk, ↓reduceIte, Bool.false_eq_true, Nat.add_zero] using ih
  simp only [t147_0, t147_1, t147_4, t147_5, t147_6, t147_7, t147_9, t147_10, t147_13, t147_14, t147_15, t147_18, t147_19, t147_20, t147_23, t147_24, t147_25, t147_26, t147_27, t147_28, t147_29, t147_30, t147_31, t147_32, t147_35, t147_38, t147_39, h1, ↓reduceIte, hf, cbn_v]
  exact lp 0 (Nat.zero_le _)
