/-! as in whole -/
def RepAt (M : SM) (r : Nat) : Prop := mK M r = (13, 0) ∧ mP M r 4 = some (r + 1) ∧ mP M r 5 = some (r + 2) ∧ mP M r 6 = some (r + 3) ∧ mK M (r + 1) = (1, 40) ∧ mK M (r + 2) = (1, 40) ∧ TreeAt M (r + 3)
/-- a replay begun anew -/
def rClr (M : SM) (r : Nat) : SM :=
  sI (sI (sI (sI (sI (sJ M r (va_up (va_up (mJ M r) 0 0) 1 0)) r (va_up (va_up (mI M r) 2 0) 3 0)) (r + 1) (fl (mI M (r + 1)) 40 (-6))) (r + 2) (fl (mI M (r + 2)) 40 (-6))) (r + 4) (fl (mI M (r + 4)) 16 (-6))) (r + 5) (va_up (fl (mI M (r + 5)) 16 (-6)) 0 0)
theorem c_rClear {M : SM} {r : Nat} (h : RepAt M r) : cl 7 [.ref r] M = some (none, rClr M r) := by
  show rn 7 0 [some (.ref r)] [] M = _
  obtain ⟨h1, h2, h3, h4, h5, h6, h7⟩ := h
  have hT : ∀ M', mK M' = mK M → mP M' = mP M → cl 5 [.ref (r + 3)] M' = some (none, tClr M' (r + 3)) := fun M' e1 e2 => c_tClear (by unfold TreeAt; rw [e1, e2]; exact h7)
  have hF : ∀ M' a, mK M' = mK M → mK M a = (1, 40) → cl 6 [.ref a, .int (-6)] M' = some (none, sI M' a (fl (mI M' a) 40 (-6))) := fun M' a e1 e2 => c_fill (by rw [e1]; exact e2) (by decide) _
  obtain ⟨N1, hN1⟩ : ∃ N1, N1 = sI (sJ M r (va_up (va_up (mJ M r) 0 0) 1 0)) r (va_up (va_up (mI M r) 2 0) 3 0) := ⟨_, rfl⟩
  have k1 : mK N1 = mK M := by rw [hN1]; rfl
  have p1 : mP N1 = mP M := by rw [hN1]; rfl
  have f1 := hF N1 (r + 1) k1 h5
  obtain ⟨N2, hN2⟩ : ∃ N2, N2 = sI N1 (r + 1) (fl (mI N1 (r + 1)) 40 (-6)) := ⟨_, rfl⟩
  have k2 : mK N2 = mK M := by rw [hN2]; exact k1
  have p2 : mP N2 = mP M := by rw [hN2]; exact p1
  have f2 := hF N2 (r + 2) k2 h6
  obtain ⟨N3, hN3⟩ : ∃ N3, N3 = sI N2 (r + 2) (fl (mI N2 (r + 2)) 40 (-6)) := ⟨_, rfl⟩
  have k3 : mK N3 = mK M := by rw [hN3]; exact k2
  have p3 : mP N3 = mP M := by rw [hN3]; exact p2
  have f3 := hT N3 k3 p3
  simp only [t7_0, t7_1, t7_2, t7_5, t7_6, t7_7, t7_10, t7_11, t7_12, t7_15, t7_16, t7_17, t7_20, t7_21, t7_24, t7_26, t7_29, t7_30, t7_33, t7_35, t7_38, t7_39, t7_42, t7_45, h1, mK_sI, mK_sJ, mI_sJ, mI_sI, sJ_sJ, mJ_sJ, ↓reduceIte, sI_sI]
  rw [← hN1]
  simp only [mP_sI, mP_sJ, h2, va_rf_s, f1, cbn_v, ← hN2, k1, k2, k3, p1, p2, p3, h1, h3, h4, h7.1, f2, ← hN3, f3, ↓reduceIte, t7_0, t7_1, t7_2, t7_5, t7_6, t7_7, t7_10, t7_11, t7_12, t7_15, t7_16, t7_17, t7_20, t7_21, t7_24, t7_26, t7_29, t7_30, t7_33, t7_35, t7_38, t7_39, t7_42, t7_45]
  congr 2
  rw [hN3, hN2, hN1]
  simp only [tClr, tD, tV, rClr, mI_sJ, mI_sI, show r + 3 + 1 = r + 4 from rfl, show r + 3 + 2 = r + 5 from rfl, show ¬ r + 1 = r by omega, show ¬ r + 2 = r by omega, show ¬ r + 2 = r + 1 by omega, show ¬ r + 4 = r by omega, show ¬ r + 4 = r + 1 by omega, show ¬ r + 4 = r + 2 by omega, show ¬ r + 5 = r by omega, show ¬ r + 5 = r + 1 by omega, show ¬ r + 5 = r + 2 by omega, ↓reduceIte]
/-- those that are ready -/
def rdyB (nd : Nat → Int64) (n : Nat) (lost rp : Int64) : Int64 := mk (fun e => !bt (lost ||| rp) e && decide (nd e &&& (rp ^^^ (-1)) = 0)) n
theorem c_ready {M : SM} {r h n : Nat} (hR : RepAt M r) (hL : LogAt M h) (hn : mI M h 0 = nI n) (h40 : n ≤ 40) : cl 48 [.ref r, .ref h] M = some (some (.long (rdyB (mJ M (h + 4)) n (mJ M h 1) (mJ M r 0))), M) := by
  show rn 48 0 [some (.ref r), some (.ref h), none, none, none, none, none] [] M = _
  have r1 := hR.1
  obtain ⟨h1, h2, h3, h4, h5, h6, k1, k2, k3, k4, k5⟩ := hL
  unfold rdyB
  generalize hx : mJ M h 1 ||| mJ M r 0 = x
  generalize hp : (fun e => !bt x e && decide (mJ M (h + 4) e &&& (mJ M r 0 ^^^ (-1)) = 0)) = p
  have hpk : ∀ k, p k = (!bt x k && decide (mJ M (h + 4) k &&& (mJ M r 0 ^^^ (-1)) = 0)) := fun k => by rw [← hp]
  generalize hRs : mk p n = Rs
  have lp : ∀ k, k ≤ n → rn 48 16 [some (.ref r), some (.ref h), some (.long x), none, some (.long (mk p k)), none, some (.int (nI k))] [] M = some (some (.long Rs), M) := by
    refine loopB ?_ ?_
    · rw [t48_16]
      simp only [t48_0, t48_1, t48_4, t48_5, t48_8, t48_9, t48_10, t48_11, t48_13, t48_14, t48_18, t48_19, t48_22, t48_25, t48_26, t48_28, t48_31, t48_34, t48_35, t48_38, t48_40, t48_41, t48_42, t48_45, t48_48, t48_49, t48_50, t48_51, t48_52, t48_55, t48_57, t48_59, t48_62, t48_63, t48_65, t48_68, t48_71, t48_73, h1, ↓reduceIte, hn, i_le (show n < 2147483648 by omega) (show n < 2147483648 by omega), Nat.le_refl, hRs]
    · intro k hk ih
      rw [t48_16]
      have hle : ¬ n ≤ k := by omega
      have hpk := hpk k
      cases hb : bt x k with
      | true =>
        simp [hb] at hpk
        simp [t48_0, t48_1, t48_4, t48_5, t48_8, t48_9, t48_10, t48_11, t48_13, t48_14, t48_18, t48_19, t48_22, t48_25, t48_26, t48_28, t48_31, t48_34, t48_35, t48_38, t48_40, t48_41, t48_42, t48_45, t48_48, t48_49, t48_50, t48_51, t48_52, t48_55, t48_57, t48_59, t48_62, t48_63, t48_65, t48_68, t48_71, t48_73, h1, hn, i_le (show n < 2147483648 by omega) (show k < 2147483648 by omega), hle, c_holds _ (show k < 64 by omega), cbn_i, hb, n1]
        simpa [mk, hpk] using ih
      | false =>
        by_cases hz : mJ M (h + 4) k &&& (mJ M r 0 ^^^ (-1)) = 0
        · simp only [hb, hz, decide_true, Bool.not_false, Bool.and_self] at hpk
          simp only [t48_0, t48_1, t48_4, t48_5, t48_8, t48_9, t48_10, t48_11, t48_13, t48_14, t48_18, t48_19, t48_22, t48_25, t48_26, t48_28, t48_31, t48_34, t48_35, t48_38, t48_40, t48_41, t48_42, t48_45, t48_48, t48_49, t48_50, t48_51, t48_52, t48_55, t48_57, t48_59, t48_62, t48_63, t48_65, t48_68, t48_71, t48_73, h1, r1, hn, i_le (show n < 2147483648 by omega) (show k < 2147483648 by omega), hle, c_holds _ (show k < 64 by omega), cbn_i, hb, n1, h5, va_rf_s, k4, i_inT (show k < 40 by omega) (by decide), and_self, nI_c (show k < 2147483648 by omega), lg_cmp_eq, hz, c_bit, ↓reduceIte, Bool.false_eq_true, not_true_eq_false]
          simpa only [mk, hpk, ↓reduceIte] using ih
        · simp only [hb, hz, decide_false, Bool.and_false] at hpk
          simp only [t48_0, t48_1, t48_4, t48_5, t48_8, t48_9, t48_10, t48_11, t48_13, t48_14, t48_18, t48_19, t48_22, t48_25, t48_26, t48_28, t48_31, t48_34, t48_35, t48_38, t48_40, t48_41, t48_42, t48_45, t48_48, t48_49, t48_50, t48_51, t48_52, t48_55, t48_57, t48_59, t48_62, t48_63, t48_65, t48_68, t48_71, t48_73, h1, r1, hn, i_le (show n < 2147483648 by omega) (show k < 2147483648 by omega), hle, c_holds _ (show k < 64 by omega), cbn_i, hb, n1, h5, va_rf_s, k4, i_inT (show k < 40 by omega) (by decide), and_self, nI_c (show k < 2147483648 by omega), lg_cmp_eq, hz, c_bit, ↓reduceIte, Bool.false_eq_true, not_true_eq_false, not_false_eq_true]
          simpa only [mk, hpk, ↓reduceIte, Bool.false_eq_true] using ih
  have h0 := lp 0 (Nat.zero_le _)
  simp only [t48_0, t48_1, t48_4, t48_5, t48_8, t48_9, t48_10, t48_11, t48_13, t48_14, t48_18, t48_19, t48_22, t48_25, t48_26, t48_28, t48_31, t48_34, t48_35, t48_38, t48_40, t48_41, t48_42, t48_45, t48_48, t48_49, t48_50, t48_51, t48_52, t48_55, t48_57, t48_59, t48_62, t48_63, t48_65, t48_68, t48_71, t48_73, h1, r1, ↓reduceIte, hx]
  exact h0
/-- refused ones, rounds of entries, reasons, the tree's rows -/
abbrev RS : Type := Int64 × (Nat → Int32) × (Nat → Int32) × (Nat → Int32) × (Nat → Int32)
def rrS (K F A : Nat → Int32) (rd : Int64) (rds : Int32) (s0 : RS) : Nat → RS
  | 0 => s0
  | k + 1 =>
    let s := rrS K F A rd rds s0 k
    if bt rd k = true then
      let x := rfs s.2.2.2.1 s.2.2.2.2 (K k).toNatClampNeg (F k).toNatClampNeg (A k)
      (if x = 0 then s.1 else s.1 ||| bE k, va_up s.2.1 k rds, va_up s.2.2.1 k x, if x = 0 then pD s.2.2.2.1 (K k).toNatClampNeg (F k).toNatClampNeg (A k) else s.2.2.2.1, if x = 0 then pV s.2.2.2.2 (K k).toNatClampNeg (F k).toNatClampNeg (A k) else s.2.2.2.2)
    else s
def rMem (M : SM) (r : Nat) (s : RS) : SM := sI (sI (sI (sI (sJ M r (va_up (mJ M r) 1 s.1)) (r + 1) s.2.1) (r + 2) s.2.2.1) (r + 4) s.2.2.2.1) (r + 5) s.2.2.2.2
def rS0 (M : SM) (r : Nat) : RS := (mJ M r 1, mI M (r + 1), mI M (r + 2), mI M (r + 4), mI M (r + 5))
theorem va_up_id {α : Type} (f : Nat → α) (k : Nat) : va_up f k (f k) = f := by
  funext j
  unfold va_up
  split
  · rename_i h; rw [h]
  · rfl
theorem rMem_0 (M : SM) (r : Nat) : rMem M r (rS0 M r) = M := by
  unfold rMem rS0
  dsimp only
  rw [va_up_id, sJ_self, sI_self, sI_self, sI_self, sI_self]
theorem rMem_J (M : SM) (r : Nat) (s : RS) : mJ (rMem M r s) r = va_up (mJ M r) 1 s.1 := by simp [rMem, mJ_sI, mJ_sJ]
theorem rMem_Jn (M : SM) (r : Nat) (s : RS) {b : Nat} (h : b ≠ r) : mJ (rMem M r s) b = mJ M b := by simp [rMem, mJ_sI, mJ_sJ, h]
theorem rMem_1 (M : SM) (r : Nat) (s : RS) : mI (rMem M r s) (r + 1) = s.2.1 := by simp [rMem, mI_sI, mI_sJ]
theorem rMem_2 (M : SM) (r : Nat) (s : RS) : mI (rMem M r s) (r + 2) = s.2.2.1 := by simp [rMem, mI_sI, mI_sJ]
theorem rMem_4 (M : SM) (r : Nat) (s : RS) : mI (rMem M r s) (r + 4) = s.2.2.2.1 := by simp [rMem, mI_sI, mI_sJ]
theorem rMem_5 (M : SM) (r : Nat) (s : RS) : mI (rMem M r s) (r + 5) = s.2.2.2.2 := by simp [rMem, mI_sI, mI_sJ]
theorem rMem_n (M : SM) (r : Nat) (s : RS) {b : Nat} (h : b < r + 1 ∨ b = r + 3 ∨ r + 6 ≤ b) : mI (rMem M r s) b = mI M b := by
  simp [rMem, mI_sI, mI_sJ, show ¬ b = r + 1 by omega, show ¬ b = r + 2 by omega, show ¬ b = r + 4 by omega, show ¬ b = r + 5 by omega]
theorem rMem_eq {M M' : SM} {r : Nat} {s : RS} (h : M'.2.2 = M.2.2) (hJ : mJ M' r = va_up (mJ M r) 1 s.1) (hJn : ∀ b, b ≠ r → mJ M' b = mJ M b) (h1 : mI M' (r + 1) = s.2.1) (h2 : mI M' (r + 2) = s.2.2.1) (h4 : mI M' (r + 4) = s.2.2.2.1) (h5 : mI M' (r + 5) = s.2.2.2.2) (hn : ∀ b, (b < r + 1 ∨ b = r + 3 ∨ r + 6 ≤ b) → mI M' b = mI M b) : M' = rMem M r s := by
  refine sm_ext h (fun b => ?_) (fun b => ?_)
  · by_cases a1 : b = r + 1
    · rw [a1, h1, rMem_1]
    · by_cases a2 : b = r + 2
      · rw [a2, h2, rMem_2]
      · by_cases a4 : b = r + 4
        · rw [a4, h4, rMem_4]
        · by_cases a5 : b = r + 5
          · rw [a5, h5, rMem_5]
          · have : b < r + 1 ∨ b = r + 3 ∨ r + 6 ≤ b := by omega
            rw [hn b this, rMem_n _ _ _ this]
  · by_cases a : b = r
    · rw [a, hJ, rMem_J]
    · rw [hJn b a, rMem_Jn _ _ _ a]
/-- what an entry holds is well formed -/
def EntOK (K F A : Nat → Int32) (e : Nat) : Prop := okE (K e).toNatClampNeg (F e).toNatClampNeg (A e) ∧ K e = nI (K e).toNatClampNeg ∧ F e = nI (F e).toNatClampNeg
def rrF (M : SM) (r : Nat) (s : RS) (rd : Int64) : SM :=
  sI (sJ (rMem M r s) r (va_up (va_up (mJ M r) 1 s.1) 0 (mJ M r 0 ||| rd))) r (va_up (va_up (mI M r) 3 (if mI M r 3 < nI (cnt (bt rd) 64) then nI (cnt (bt rd) 64) else mI M r 3)) 2 (mI M r 2 + 1))
theorem c_replayReady {M : SM} {r h n : Nat} (hR : RepAt M r) (hL : LogAt M h) (hn : mI M h 0 = nI n) (h40 : n ≤ 40) (hdis : h + 6 ≤ r ∨ r + 6 ≤ h) (rd : Int64) (hE : ∀ e, e < n → EntOK (mI M (h + 1)) (mI M (h + 2)) (mI M (h + 3)) e) :
    cl 49 [.ref r, .ref h, .long rd] M = some (some (.int (nI (cnt (bt rd) 64))), rrF M r (rrS (mI M (h + 1)) (mI M (h + 2)) (mI M (h + 3)) rd (mI M r 2) (rS0 M r) n) rd) := by
  show rn 49 0 [some (.ref r), some (.ref h), some (.long rd), none, none] [] M = _
  obtain ⟨r1, r2, r3, r4, r5, r6, r7⟩ := hR
  obtain ⟨h1, h2, h3, h4, h5, h6, k1, k2, k3, k4, k5⟩ := hL
  generalize hs : rrS (mI M (h + 1)) (mI M (h + 2)) (mI M (h + 3)) rd (mI M r 2) (rS0 M r) = sq
  have hss : ∀ k, sq (k + 1) = if bt rd k = true then (let x := rfs (sq k).2.2.2.1 (sq k).2.2.2.2 (mI M (h + 1) k).toNatClampNeg (mI M (h + 2) k).toNatClampNeg (mI M (h + 3) k)
      (if x = 0 then (sq k).1 else (sq k).1 ||| bE k, va_up (sq k).2.1 k (mI M r 2), va_up (sq k).2.2.1 k x, if x = 0 then pD (sq k).2.2.2.1 (mI M (h + 1) k).toNatClampNeg (mI M (h + 2) k).toNatClampNeg (mI M (h + 3) k) else (sq k).2.2.2.1, if x = 0 then pV (sq k).2.2.2.2 (mI M (h + 1) k).toNatClampNeg (mI M (h + 2) k).toNatClampNeg (mI M (h + 3) k) else (sq k).2.2.2.2)) else sq k := fun k => by rw [← hs]; rfl
  have hs0 : sq 0 = rS0 M r := by rw [← hs]; rfl
  have lp : ∀ k, k ≤ n → rn 49 3 [some (.ref r), some (.ref h), some (.long rd), none, some (.int (nI k))] [] (rMem M r (sq k)) = some (some (.int (nI (cnt (bt rd) 64))), rrF M r (sq n) rd) := by
    have eK : ∀ s, mK (rMem M r s) = mK M := fun _ => rfl
    have eP : ∀ s, mP (rMem M r s) = mP M := fun _ => rfl
    refine loopB ?_ ?_
    · rw [t49_3]
      have eh := rMem_n M r (sq n) (b := h) (by omega)
      have er := rMem_n M r (sq n) (b := r) (by omega)
      simp only [t49_0, t49_1, t49_5, t49_6, t49_9, t49_12, t49_13, t49_15, t49_18, t49_21, t49_22, t49_25, t49_27, t49_28, t49_31, t49_32, t49_35, t49_37, t49_38, t49_39, t49_42, t49_44, t49_45, t49_46, t49_49, t49_51, t49_52, t49_55, t49_56, t49_57, t49_60, t49_62, t49_63, t49_66, t49_67, t49_68, t49_69, t49_72, t49_73, t49_76, t49_78, t49_79, t49_82, t49_83, t49_86, t49_88, t49_91, t49_92, t49_95, t49_98, t49_101, t49_102, t49_103, t49_106, t49_107, t49_108, t49_111, t49_112, t49_115, t49_117, t49_118, t49_119, t49_122, t49_124, t49_127, t49_130, t49_131, t49_132, t49_135, t49_136, t49_137, t49_140, t49_142, eK, eP, h1, r1, ↓reduceIte, eh, hn, i_le (show n < 2147483648 by omega) (show n < 2147483648 by omega), Nat.le_refl, mK_sJ, mK_sI, c_bitCount, cbn_i, c_max, rMem_J, mI_sJ, er, mI_sI, sI_sI]
      unfold rrF
      rw [va_up_ne (mJ M r) _ (show (0 : Nat) ≠ 1 by decide), va_up_ne (mI M r) _ (show (2 : Nat) ≠ 3 by decide)]
    · intro k hk ih
      rw [t49_3]
      have hle : ¬ n ≤ k := by omega
      have hss := hss k
      have eh := rMem_n M r (sq k) (b := h) (by omega)
      have e1 := rMem_n M r (sq k) (b := h + 1) (by omega)
      have e2 := rMem_n M r (sq k) (b := h + 2) (by omega)
      have e3 := rMem_n M r (sq k) (b := h + 3) (by omega)
      have er := rMem_n M r (sq k) (b := r) (by omega)
      obtain ⟨hok, hK, hF⟩ := hE k hk
      cases hb : bt rd k with
      | false =>
        rw [hb] at hss
        simp only [Bool.false_eq_true, ↓reduceIte] at hss
        simp only [t49_0, t49_1, t49_5, t49_6, t49_9, t49_12, t49_13, t49_15, t49_18, t49_21, t49_22, t49_25, t49_27, t49_28, t49_31, t49_32, t49_35, t49_37, t49_38, t49_39, t49_42, t49_44, t49_45, t49_46, t49_49, t49_51, t49_52, t49_55, t49_56, t49_57, t49_60, t49_62, t49_63, t49_66, t49_67, t49_68, t49_69, t49_72, t49_73, t49_76, t49_78, t49_79, t49_82, t49_83, t49_86, t49_88, t49_91, t49_92, t49_95, t49_98, t49_101, t49_102, t49_103, t49_106, t49_107, t49_108, t49_111, t49_112, t49_115, t49_117, t49_118, t49_119, t49_122, t49_124, t49_127, t49_130, t49_131, t49_132, t49_135, t49_136, t49_137, t49_140, t49_142, eK, eP, h1, r1, ↓reduceIte, eh, hn, i_le (show n < 2147483648 by omega) (show k < 2147483648 by omega), hle, c_holds _ (show k < 64 by omega), cbn_i, hb, Bool.false_eq_true, n1]
        rw [hss] at ih
        exact ih
      | true =>
        rw [hb] at hss
        simp only [↓reduceIte] at hss
        have hA := c_apply (M := rMem M r (sq k)) (t := r + 3) (kd := (mI M (h + 1) k).toNatClampNeg) (f := (mI M (h + 2) k).toNatClampNeg) (a := mI M (h + 3) k) r7 hok
        rw [← hK, ← hF] at hA
        have hD : tD (rMem M r (sq k)) (r + 3) = (sq k).2.2.2.1 := rMem_4 _ _ _
        have hV : tV (rMem M r (sq k)) (r + 3) = (sq k).2.2.2.2 := rMem_5 _ _ _
        rw [hD, hV] at hA
        generalize hx : rfs (sq k).2.2.2.1 (sq k).2.2.2.2 (mI M (h + 1) k).toNatClampNeg (mI M (h + 2) k).toNatClampNeg (mI M (h + 3) k) = x at hA hss
        generalize hM2 : (if x = 0 then tSet (rMem M r (sq k)) (r + 3) (pD (sq k).2.2.2.1 (mI M (h + 1) k).toNatClampNeg (mI M (h + 2) k).toNatClampNeg (mI M (h + 3) k)) (pV (sq k).2.2.2.2 (mI M (h + 1) k).toNatClampNeg (mI M (h + 2) k).toNatClampNeg (mI M (h + 3) k)) else rMem M r (sq k)) = M2 at hA
        have g0 : M2.2.2 = M.2.2 := by rw [← hM2]; split <;> rfl
        have gK : mK M2 = mK M := congrArg (fun z => z.2.1) g0
        have gP : mP M2 = mP M := congrArg (fun z => z.1) g0
        have gJ : mJ M2 = mJ (rMem M r (sq k)) := by rw [← hM2]; split <;> rfl
        have g4 : mI M2 (r + 4) = (if x = 0 then pD (sq k).2.2.2.1 (mI M (h + 1) k).toNatClampNeg (mI M (h + 2) k).toNatClampNeg (mI M (h + 3) k) else (sq k).2.2.2.1) := by
          rw [← hM2]; split <;> simp [tSet, mI_sI, rMem_4]
        have g5 : mI M2 (r + 5) = (if x = 0 then pV (sq k).2.2.2.2 (mI M (h + 1) k).toNatClampNeg (mI M (h + 2) k).toNatClampNeg (mI M (h + 3) k) else (sq k).2.2.2.2) := by
          rw [← hM2]; split <;> simp [tSet, mI_sI, rMem_5]
        have gn : ∀ b, b ≠ r + 4 → b ≠ r + 5 → mI M2 b = mI (rMem M r (sq k)) b := fun b q1 q2 => by
          rw [← hM2]; split <;> simp [tSet, mI_sI, q1, q2]
        have gr := gn r (by omega) (by omega)
        have g1 := gn (r + 1) (by omega) (by omega)
        have g2 := gn (r + 2) (by omega) (by omega)
        rw [rMem_1] at g1
        rw [rMem_2] at g2
        rw [er] at gr
        have hin := i_inT (k := k) (n := 40) (by omega) (by decide)
        have hc := nI_c (k := k) (by omega)
        have fin : ∀ u : Int64, (if x = 0 then (sq k).1 else (sq k).1 ||| bE k) = u → sJ (sI (sI M2 (r + 2) (va_up (sq k).2.2.1 k x)) (r + 1) (va_up (sq k).2.1 k (mI M r 2))) r (va_up (va_up (mJ M r) 1 (sq k).1) 1 u) = rMem M r (sq (k + 1)) := by
          intro u hu
          rw [hss]
          refine rMem_eq (by exact g0) ?_ (fun b hb => ?_) ?_ ?_ ?_ ?_ (fun b hb => ?_)
          · rw [mJ_sJ, if_pos rfl, hu]
            funext j
            unfold va_up
            split <;> rfl
          · rw [mJ_sJ, if_neg hb, mJ_sI, mJ_sI, gJ, rMem_Jn _ _ _ hb]
          · simp [mI_sI, mI_sJ]
          · simp [mI_sI, mI_sJ]
          · simp [mI_sI, mI_sJ, g4]
          · simp [mI_sI, mI_sJ, g5]
          · rw [mI_sJ, mI_sI, if_neg (by omega), mI_sI, if_neg (by omega), gn b (by omega) (by omega), rMem_n _ _ _ hb]
        by_cases hx0 : x = 0
        · have f0 := fin (sq k).1 (if_pos hx0)
          simp only [t49_0, t49_1, t49_5, t49_6, t49_9, t49_12, t49_13, t49_15, t49_18, t49_21, t49_22, t49_25, t49_27, t49_28, t49_31, t49_32, t49_35, t49_37, t49_38, t49_39, t49_42, t49_44, t49_45, t49_46, t49_49, t49_51, t49_52, t49_55, t49_56, t49_57, t49_60, t49_62, t49_63, t49_66, t49_67, t49_68, t49_69, t49_72, t49_73, t49_76, t49_78, t49_79, t49_82, t49_83, t49_86, t49_88, t49_91, t49_92, t49_95, t49_98, t49_101, t49_102, t49_103, t49_106, t49_107, t49_108, t49_111, t49_112, t49_115, t49_117, t49_118, t49_119, t49_122, t49_124, t49_127, t49_130, t49_131, t49_132, t49_135, t49_136, t49_137, t49_140, t49_142, eK, eP, gK, gP, mK_sI, mP_sI, mK_sJ, mP_sJ, h1, h2, h3, h4, r1, r2, r3, r4, r7.1, va_rf_s, k1, k2, k3, r5, r6, ↓reduceIte, eh, e1, e2, e3, hn, i_le (show n < 2147483648 by omega) (show k < 2147483648 by omega), hle, c_holds _ (show k < 64 by omega), cbn_i, hb, hin, hc, and_self, true_or, hA, g2, mI_sI, show ¬ r + 1 = r + 2 by omega, show ¬ r = r + 2 by omega, show ¬ r = r + 1 by omega, show ¬ r + 2 = r + 1 by omega, g1, gr, mJ_sI, gJ, rMem_J, va_up_self, hx0, n1, Int64.or_zero]
          rw [hx0] at f0
          rw [f0]
          exact ih
        · have f0 := fin ((sq k).1 ||| bE k) (if_neg hx0)
          simp only [t49_0, t49_1, t49_5, t49_6, t49_9, t49_12, t49_13, t49_15, t49_18, t49_21, t49_22, t49_25, t49_27, t49_28, t49_31, t49_32, t49_35, t49_37, t49_38, t49_39, t49_42, t49_44, t49_45, t49_46, t49_49, t49_51, t49_52, t49_55, t49_56, t49_57, t49_60, t49_62, t49_63, t49_66, t49_67, t49_68, t49_69, t49_72, t49_73, t49_76, t49_78, t49_79, t49_82, t49_83, t49_86, t49_88, t49_91, t49_92, t49_95, t49_98, t49_101, t49_102, t49_103, t49_106, t49_107, t49_108, t49_111, t49_112, t49_115, t49_117, t49_118, t49_119, t49_122, t49_124, t49_127, t49_130, t49_131, t49_132, t49_135, t49_136, t49_137, t49_140, t49_142, eK, eP, gK, gP, mK_sI, mP_sI, mK_sJ, mP_sJ, h1, h2, h3, h4, r1, r2, r3, r4, r7.1, va_rf_s, k1, k2, k3, r5, r6, ↓reduceIte, eh, e1, e2, e3, hn, i_le (show n < 2147483648 by omega) (show k < 2147483648 by omega), hle, c_holds _ (show k < 64 by omega), cbn_i, hb, hin, hc, and_self, true_or, hA, g2, mI_sI, show ¬ r + 1 = r + 2 by omega, show ¬ r = r + 2 by omega, show ¬ r = r + 1 by omega, show ¬ r + 2 = r + 1 by omega, g1, gr, mJ_sI, gJ, rMem_J, va_up_self, hx0, n1, c_bit]
          rw [f0]
          exact ih
  have h0 := lp 0 (Nat.zero_le _)
  rw [hs0, rMem_0] at h0
  simp only [t49_0, t49_1, t49_5, t49_6, t49_9, t49_12, t49_13, t49_15, t49_18, t49_21, t49_22, t49_25, t49_27, t49_28, t49_31, t49_32, t49_35, t49_37, t49_38, t49_39, t49_42, t49_44, t49_45, t49_46, t49_49, t49_51, t49_52, t49_55, t49_56, t49_57, t49_60, t49_62, t49_63, t49_66, t49_67, t49_68, t49_69, t49_72, t49_73, t49_76, t49_78, t49_79, t49_82, t49_83, t49_86, t49_88, t49_91, t49_92, t49_95, t49_98, t49_101, t49_102, t49_103, t49_106, t49_107, t49_108, t49_111, t49_112, t49_115, t49_117, t49_118, t49_119, t49_122, t49_124, t49_127, t49_130, t49_131, t49_132, t49_135, t49_136, t49_137, t49_140, t49_142]
  exact h0
