/-! the reference: a round made, in step with the class's -/
/-- the row says the state of a round's making -/
def RInv (w : Nat → Int32) (n : Nat) (s : RS) (u : Nat → Int32) : Prop :=
  (∀ j, j < 322 → (∀ e, e < n → j ≠ 2 + 8 * e + 4 ∧ j ≠ 2 + 8 * e + 5) → u j = w j) ∧ (∀ e, e < n → u (2 + 8 * e + 4) = s.2.1 e ∧ u (2 + 8 * e + 5) = s.2.2.1 e) ∧ TR u s.2.2.2.1 s.2.2.2.2 ∧ TI s.2.2.2.1 s.2.2.2.2
theorem TR_lo {u D V : Nat → Int32} (h : TR u D V) {j : Nat} (hj : j < 322) (v : Int32) : TR (va_up u j v) D V := by
  intro f hf
  obtain ⟨t1, t2, t3⟩ := h f hf
  refine ⟨?_, ?_, ?_⟩ <;> rw [va_up_ne _ _ (by omega)] <;> assumption
theorem rrS_no {K F A : Nat → Int32} {rd : Int64} {rds : Int32} {s0 : RS} {k : Nat} (h : bt rd k = false) : rrS K F A rd rds s0 (k + 1) = rrS K F A rd rds s0 k := by
  show (if bt rd k = true then _ else _) = _
  rw [h]
  rfl
theorem rrS_yes {K F A : Nat → Int32} {rd : Int64} {rds : Int32} {s0 : RS} {k : Nat} (h : bt rd k = true) : rrS K F A rd rds s0 (k + 1) =
    (let s := rrS K F A rd rds s0 k
     let x := rfs s.2.2.2.1 s.2.2.2.2 (K k).toNatClampNeg (F k).toNatClampNeg (A k)
     (if x = 0 then s.1 else s.1 ||| bE k, va_up s.2.1 k rds, va_up s.2.2.1 k x, if x = 0 then pD s.2.2.2.1 (K k).toNatClampNeg (F k).toNatClampNeg (A k) else s.2.2.2.1, if x = 0 then pV s.2.2.2.2 (K k).toNatClampNeg (F k).toNatClampNeg (A k) else s.2.2.2.2)) := by
  show (if bt rd k = true then _ else _) = _
  rw [if_pos h]
theorem c_makesRound {M : SM} {m n : Nat} {K F A : Nat → Int32} {s0 : RS} (h : ModAt M m) (hn : mI M (m + 1) 0 = nI n) (h40 : n ≤ 40)
    (hE : ∀ e, e < n → EntOK K F A e) (hrow : ∀ e, e < n → mI M (m + 1) (2 + 8 * e) = K e ∧ mI M (m + 1) (2 + 8 * e + 1) = F e ∧ mI M (m + 1) (2 + 8 * e + 2) = A e)
    (h0 : RInv (mI M (m + 1)) n s0 (mI M (m + 1))) {rd : Int64} (hrd : rd = rRd (mI M (m + 1)) n) :
    ∃ W, cl 136 [.ref m] M = some (some (.int (nI (cnt (bt rd) 40))), sI M (m + 1) (va_up W 1 (mI M (m + 1) 1 + 1))) ∧ RInv (mI M (m + 1)) n (rrS K F A rd (mI M (m + 1) 1) s0 n) W := by
  show ∃ W, rn 136 0 [some (.ref m), none, none, none] [] M = _ ∧ _
  have hm := h
  have hr := c_readyOnes h hn h40
  rw [← hrd] at hr
  obtain ⟨h1, h2, -, -, -, -, -, -, -, -, k1, -⟩ := h
  have hin : inR 0 370 = True := eq_true (by decide)
  have hin1 : inR 1 370 = True := eq_true (by decide)
  have e1 : (0 : Int32).toNatClampNeg = 0 := by decide
  have e11 : (1 : Int32).toNatClampNeg = 1 := by decide
  generalize hw : mI M (m + 1) = w at *
  have w0 : ∀ {s u}, RInv w n s u → u 0 = nI n := fun {s u} hi => (hi.1 0 (by decide) (fun e he => ⟨by omega, by omega⟩)).trans hn
  have w1 : ∀ {s u}, RInv w n s u → u 1 = w 1 := fun {s u} hi => hi.1 1 (by decide) (fun e he => ⟨by omega, by omega⟩)
  have lp : ∀ k, k ≤ n → ∀ u, RInv w n (rrS K F A rd (w 1) s0 k) u → ∃ W, rn 136 7 [some (.ref m), some (.long rd), none, some (.int (nI k))] [] (sI M (m + 1) u) = some (some (.int (nI (cnt (bt rd) 40))), sI M (m + 1) (va_up W 1 (w 1 + 1))) ∧ RInv w n (rrS K F A rd (w 1) s0 n) W := by
    refine loopB ?_ ?_
    · intro u hu
      refine ⟨u, ?_, hu⟩
      rw [t136_7]
      simp only [t136_0, t136_1, t136_4, t136_5, t136_6, t136_8, t136_9, t136_12, t136_13, t136_14, t136_17, t136_18, t136_19, t136_20, t136_21, t136_22, t136_23, t136_24, t136_27, t136_28, t136_29, t136_30, t136_31, t136_32, t136_35, t136_38, t136_39, t136_40, t136_41, t136_42, t136_45, t136_46, t136_47, t136_50, t136_53, t136_56, t136_57, t136_60, t136_61, t136_62, t136_63, t136_64, t136_65, t136_66, t136_67, t136_70, mK_sI, mP_sI, mI_sI, sI_sI, h1, h2, va_rf_s, ↓reduceIte, k1, hin, hin1, e1, e11, true_or, and_self, w0 hu, w1 hu, leN n (show n < 2147483648 by omega) (show n < 2147483648 by omega), Nat.le_refl, c_bits, cbn_i]
    · intro k hk ih u hu
      have hle : ¬ n ≤ k := by omega
      cases hb : bt rd k with
      | false =>
        rw [rrS_no hb] at ih
        obtain ⟨W, hW, hi⟩ := ih u hu
        refine ⟨W, ?_, hi⟩
        rw [t136_7]
        have z : ((0 : Int64) = 1) = False := by decide
        simp only [t136_0, t136_1, t136_4, t136_5, t136_6, t136_8, t136_9, t136_12, t136_13, t136_14, t136_17, t136_18, t136_19, t136_20, t136_21, t136_22, t136_23, t136_24, t136_27, t136_28, t136_29, t136_30, t136_31, t136_32, t136_35, t136_38, t136_39, t136_40, t136_41, t136_42, t136_45, t136_46, t136_47, t136_50, t136_53, t136_56, t136_57, t136_60, t136_61, t136_62, t136_63, t136_64, t136_65, t136_66, t136_67, t136_70, mK_sI, mP_sI, mI_sI, h1, h2, va_rf_s, ↓reduceIte, k1, hin, e1, true_or, and_self, w0 hu, leN n (show n < 2147483648 by omega) (show k < 2147483648 by omega), hle, bt_read (show k < 64 by omega), hb, lg_cmp_eq, z, Bool.false_eq_true, not_false_eq_true, n1]
        exact hW
      | true =>
        rw [rrS_yes hb] at ih
        obtain ⟨s, hs⟩ : ∃ s, s = rrS K F A rd (w 1) s0 k := ⟨_, rfl⟩
        rw [← hs] at ih hu
        dsimp only at ih
        obtain ⟨eok, eK, eF⟩ := hE k hk
        obtain ⟨r0, r1, r2⟩ := hrow k hk
        have keep : ∀ p, p < 4 → u (2 + 8 * k + p) = w (2 + 8 * k + p) := fun p hp => hu.1 _ (by omega) (fun e he => ⟨by omega, by omega⟩)
        have t0 : mI (sI M (m + 1) u) (m + 1) (2 + 8 * k) = nI (K k).toNatClampNeg := by
          rw [mI_sI, if_pos rfl, ← eK, ← r0]; exact keep 0 (by decide)
        have t1 : mI (sI M (m + 1) u) (m + 1) (2 + 8 * k + 1) = nI (F k).toNatClampNeg := by
          rw [mI_sI, if_pos rfl, ← eF, ← r1]; exact keep 1 (by decide)
        have t2 : mI (sI M (m + 1) u) (m + 1) (2 + 8 * k + 2) = A k := by
          rw [mI_sI, if_pos rfl, ← r2]; exact keep 2 (by decide)
        have hT : TR (mI (sI M (m + 1) u) (m + 1)) s.2.2.2.1 s.2.2.2.2 := by
          rw [mI_sI, if_pos rfl]; exact hu.2.2.1
        obtain ⟨u', hp, hlo, hT'⟩ := c_plays (hm.sI (m + 1) u) hT hu.2.2.2 (show k < 40 by omega) t0 t1 t2 eok
        rw [sI_sI] at hp
        have hlo : ∀ j, j < 322 → u' j = u j := fun j hj => by
          have := hlo j hj
          rw [mI_sI, if_pos rfl] at this
          exact this
        have hI' : TI (if rfs s.2.2.2.1 s.2.2.2.2 (K k).toNatClampNeg (F k).toNatClampNeg (A k) = 0 then pD s.2.2.2.1 (K k).toNatClampNeg (F k).toNatClampNeg (A k) else s.2.2.2.1) (if rfs s.2.2.2.1 s.2.2.2.2 (K k).toNatClampNeg (F k).toNatClampNeg (A k) = 0 then pV s.2.2.2.2 (K k).toNatClampNeg (F k).toNatClampNeg (A k) else s.2.2.2.2) := by
          by_cases q : rfs s.2.2.2.1 s.2.2.2.2 (K k).toNatClampNeg (F k).toNatClampNeg (A k) = 0
          · rw [if_pos q, if_pos q]; exact TI_play hu.2.2.2 eok q
          · rw [if_neg q, if_neg q]; exact hu.2.2.2
        generalize hx : rfs s.2.2.2.1 s.2.2.2.2 (K k).toNatClampNeg (F k).toNatClampNeg (A k) = x at *
        have s5 := fun v => c_setPart (hm.sI (m + 1) u') (show k < 40 by omega) (show 5 < 8 by decide) v
        have s4 := fun g v => c_setPart (hm.sI (m + 1) g) (show k < 40 by omega) (show 4 < 8 by decide) v
        simp only [mI_sI, ↓reduceIte, sI_sI] at s5 s4
        rw [show nI 5 = 5 from rfl] at s5
        rw [show nI 4 = 4 from rfl] at s4
        have n15 : va_up u' (2 + 8 * k + 5) x 1 = w 1 := by
          rw [va_up_ne _ _ (by omega), hlo 1 (by decide)]; exact w1 hu
        obtain ⟨W, hW, hi⟩ := ih (va_up (va_up u' (2 + 8 * k + 5) x) (2 + 8 * k + 4) (w 1)) ⟨by
            intro j hj hne
            obtain ⟨a, b⟩ := hne k hk
            rw [va_up_ne _ _ a, va_up_ne _ _ b, hlo j hj]
            exact hu.1 j hj hne, by
            intro e he
            show _ = va_up s.2.1 k (w 1) e ∧ _ = va_up s.2.2.1 k x e
            by_cases q : e = k
            · subst q
              rw [va_up_self, va_up_self, va_up_ne _ _ (by omega), va_up_self, va_up_self]
              exact ⟨rfl, rfl⟩
            · refine ⟨?_, ?_⟩
              · rw [va_up_ne _ _ (by omega), va_up_ne _ _ (by omega), va_up_ne _ _ q, hlo _ (by omega)]
                exact (hu.2.1 e he).1
              · rw [va_up_ne _ _ (by omega), va_up_ne _ _ (by omega), va_up_ne _ _ q, hlo _ (by omega)]
                exact (hu.2.1 e he).2, TR_lo (TR_lo hT' (by omega) _) (by omega) _, hI'⟩
        refine ⟨W, ?_, hi⟩
        rw [t136_7]
        have z : ((1 : Int64) = 1) = True := by decide
        simp only [t136_0, t136_1, t136_4, t136_5, t136_6, t136_8, t136_9, t136_12, t136_13, t136_14, t136_17, t136_18, t136_19, t136_20, t136_21, t136_22, t136_23, t136_24, t136_27, t136_28, t136_29, t136_30, t136_31, t136_32, t136_35, t136_38, t136_39, t136_40, t136_41, t136_42, t136_45, t136_46, t136_47, t136_50, t136_53, t136_56, t136_57, t136_60, t136_61, t136_62, t136_63, t136_64, t136_65, t136_66, t136_67, t136_70, mK_sI, mP_sI, mI_sI, h1, h2, va_rf_s, ↓reduceIte, k1, hin, hin1, e1, e11, true_or, and_self, w0 hu, leN n (show n < 2147483648 by omega) (show k < 2147483648 by omega), hle, bt_read (show k < 64 by omega), hb, lg_cmp_eq, z, not_true_eq_false, hp, cbn_i, s5, cbn_v, n15, s4, n1]
        exact hW
  obtain ⟨W, hW, hi⟩ := lp 0 (Nat.zero_le _) w h0
  refine ⟨W, ?_, hi⟩
  have e : sI M (m + 1) w = M := by rw [← hw]; exact sI_self M (m + 1)
  rw [e] at hW
  simp only [t136_0, t136_1, t136_4, t136_5, t136_6, t136_8, t136_9, t136_12, t136_13, t136_14, t136_17, t136_18, t136_19, t136_20, t136_21, t136_22, t136_23, t136_24, t136_27, t136_28, t136_29, t136_30, t136_31, t136_32, t136_35, t136_38, t136_39, t136_40, t136_41, t136_42, t136_45, t136_46, t136_47, t136_50, t136_53, t136_56, t136_57, t136_60, t136_61, t136_62, t136_63, t136_64, t136_65, t136_66, t136_67, t136_70, h1, ↓reduceIte, hr, cbn_i]
  exact hW
