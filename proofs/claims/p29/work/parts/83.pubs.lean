/-! the class's changes, from outside -/
def HistC (M : SM) (S : Nat) : Prop := ∃ nx k, nx < 7 ∧ k ≤ 6 ∧ mI M (S + 14) 1 = nI nx ∧ mI M (S + 14) 2 = nI k
/-- behind a change: what was made of the state stays, the history goes on -/
def Aft (M M2 M3 : SM) (S : Nat) : Prop := M3.2.2 = M.2.2 ∧ (∀ b, b ≠ S + 14 → Same M2 M3 b) ∧ HistC M3 S
theorem prep_ok {M : SM} {S : Nat} (hC : ClsAt M S) (hH : HistC M S) : ∃ M1, cl 13 [.ref (S + 14), .ref (S + 1)] M = some (none, M1) ∧ Fr M M1 (S + 16) (S + 107) := by
  obtain ⟨a, b, ⟨c1, c2, c3, c4⟩, i, j⟩ := id hC
  obtain ⟨nx, k, h1, h2, h3, h4⟩ := hH
  obtain ⟨cp, cs⟩ := c4 nx h1
  obtain ⟨M1, q1, q2, q3⟩ := c_stCopy cs b (by omega)
  have hin : inR (nI nx) 7 = True := i_inT h1 (by decide)
  refine ⟨M1, ?_, q2.mono (by omega) (by omega)⟩
  show rn 13 0 [some (.ref (S + 14)), some (.ref (S + 1))] [] M = _
  simp only [t13_0, t13_1, t13_4, t13_5, t13_8, t13_9, t13_10, t13_13, c1, c2, c3, h3, va_rf_s, ↓reduceIte, true_or, hin, and_self, nI_c (show nx < 2147483648 by omega), cp, cs.1, q1, cbn_v]
theorem rec_ok {M : SM} {S : Nat} (hC : ClsAt M S) (hH : HistC M S) (a : Int32) : ∃ M3, cl 28 [.ref S, .int a] M = some (some (.int a), M3) ∧ Aft M M M3 S := by
  by_cases ha : a < 0
  · exact ⟨M, c_rec0 ha, rfl, fun _ _ => ⟨rfl, rfl⟩, hH⟩
  · obtain ⟨nx, k, h1, h2, h3, h4⟩ := hH
    have hk := c_keep hC.2.2.1.1 h3 h4 h1 h2
    refine ⟨_, c_rec1 ha hC.1.1 hC.1.2.2.1 hC.2.2.1.1 hk, rfl, fun b hb => ⟨by rw [mI_sI, if_neg hb], rfl⟩, if nx = 6 then 0 else nx + 1, rcT k, by split <;> omega, by unfold rcT; split <;> omega, ?_, ?_⟩
    · rw [mI_sI, if_pos rfl, va_up_ne _ _ (by decide), va_up_self]
    · rw [mI_sI, if_pos rfl, va_up_self]
theorem HistC.fr {M M' : SM} {S : Nat} (h : HistC M S) (e : mI M' (S + 14) = mI M (S + 14)) : HistC M' S := by
  obtain ⟨nx, k, h1, h2, h3, h4⟩ := h
  exact ⟨nx, k, h1, h2, by rw [e]; exact h3, by rw [e]; exact h4⟩
theorem pub_make {M : SM} {S : Nat} (hC : ClsAt M S) (hH : HistC M S) : ∃ M1, Fr M M1 (S + 16) (S + 107) ∧ ∀ (x y : Int32) (a : Int32) (M2 : SM), cl 18 [.ref (S + 1), .int 0, .int x, .int y] M1 = some (some (.int a), M2) → Fr M1 M2 (S + 2) (S + 14) → ∃ M3, cl 12 [.ref S, .int x, .int y] M = some (some (.int a), M3) ∧ Aft M M2 M3 S := by
  obtain ⟨M1, a1, a2⟩ := prep_ok hC hH
  refine ⟨M1, a2, ?_⟩
  intro x y a M2 b1 b2
  obtain ⟨⟨K0, P0, P1, P5, P6⟩, SN, ⟨KH, PH, KR, RG⟩, TQ, TW⟩ := id hC
  have e2 : M2.2.2 = M.2.2 := b2.1.trans a2.1
  obtain ⟨M3, c1, c2, c3, c4⟩ := rec_ok (M := M2) (S := S) (hC.st e2) (hH.fr ((b2.2 (S + 14) (by omega)).1.trans (a2.2 (S + 14) (by omega)).1)) a
  refine ⟨M3, ?_, c2.trans e2, c3, c4⟩
  show rn 12 0 [some (.ref S), some (.int x), some (.int y)] [] M = _
  simp only [t12_0, t12_1, t12_4, t12_5, t12_8, t12_11, t12_12, t12_13, t12_16, t12_17, t12_18, t12_19, t12_22, t12_25, K0, P0, P1, KH, SN.1, SN.2.1, SN.2.2.1, SN.2.2.2.1.1, SN.2.2.2.2.1, va_rf_s, ↓reduceIte, a1, cbn_v, cbn_i, KK a2.1, PK a2.1, b1, KK b2.1, PK b2.1, c1]
theorem pub_write {M : SM} {S : Nat} (hC : ClsAt M S) (hH : HistC M S) : ∃ M1, Fr M M1 (S + 16) (S + 107) ∧ ∀ (x y : Int32) (a : Int32) (M2 : SM), cl 18 [.ref (S + 1), .int 1, .int x, .int y] M1 = some (some (.int a), M2) → Fr M1 M2 (S + 2) (S + 14) → ∃ M3, cl 31 [.ref S, .int x, .int y] M = some (some (.int a), M3) ∧ Aft M M2 M3 S := by
  obtain ⟨M1, a1, a2⟩ := prep_ok hC hH
  refine ⟨M1, a2, ?_⟩
  intro x y a M2 b1 b2
  obtain ⟨⟨K0, P0, P1, P5, P6⟩, SN, ⟨KH, PH, KR, RG⟩, TQ, TW⟩ := id hC
  have e2 : M2.2.2 = M.2.2 := b2.1.trans a2.1
  obtain ⟨M3, c1, c2, c3, c4⟩ := rec_ok (M := M2) (S := S) (hC.st e2) (hH.fr ((b2.2 (S + 14) (by omega)).1.trans (a2.2 (S + 14) (by omega)).1)) a
  refine ⟨M3, ?_, c2.trans e2, c3, c4⟩
  show rn 31 0 [some (.ref S), some (.int x), some (.int y)] [] M = _
  simp only [t31_0, t31_1, t31_4, t31_5, t31_8, t31_11, t31_12, t31_13, t31_16, t31_17, t31_18, t31_19, t31_22, t31_25, K0, P0, P1, KH, SN.1, SN.2.1, SN.2.2.1, SN.2.2.2.1.1, SN.2.2.2.2.1, va_rf_s, ↓reduceIte, a1, cbn_v, cbn_i, KK a2.1, PK a2.1, b1, KK b2.1, PK b2.1, c1]
theorem pub_move {M : SM} {S : Nat} (hC : ClsAt M S) (hH : HistC M S) : ∃ M1, Fr M M1 (S + 16) (S + 107) ∧ ∀ (x y : Int32) (a : Int32) (M2 : SM), cl 18 [.ref (S + 1), .int 2, .int x, .int y] M1 = some (some (.int a), M2) → Fr M1 M2 (S + 2) (S + 14) → ∃ M3, cl 32 [.ref S, .int x, .int y] M = some (some (.int a), M3) ∧ Aft M M2 M3 S := by
  obtain ⟨M1, a1, a2⟩ := prep_ok hC hH
  refine ⟨M1, a2, ?_⟩
  intro x y a M2 b1 b2
  obtain ⟨⟨K0, P0, P1, P5, P6⟩, SN, ⟨KH, PH, KR, RG⟩, TQ, TW⟩ := id hC
  have e2 : M2.2.2 = M.2.2 := b2.1.trans a2.1
  obtain ⟨M3, c1, c2, c3, c4⟩ := rec_ok (M := M2) (S := S) (hC.st e2) (hH.fr ((b2.2 (S + 14) (by omega)).1.trans (a2.2 (S + 14) (by omega)).1)) a
  refine ⟨M3, ?_, c2.trans e2, c3, c4⟩
  show rn 32 0 [some (.ref S), some (.int x), some (.int y)] [] M = _
  simp only [t32_0, t32_1, t32_4, t32_5, t32_8, t32_11, t32_12, t32_13, t32_16, t32_17, t32_18, t32_19, t32_22, t32_25, K0, P0, P1, KH, SN.1, SN.2.1, SN.2.2.1, SN.2.2.2.1.1, SN.2.2.2.2.1, va_rf_s, ↓reduceIte, a1, cbn_v, cbn_i, KK a2.1, PK a2.1, b1, KK b2.1, PK b2.1, c1]
theorem pub_drop {M : SM} {S : Nat} (hC : ClsAt M S) (hH : HistC M S) : ∃ M1, Fr M M1 (S + 16) (S + 107) ∧ ∀ (x : Int32) (a : Int32) (M2 : SM), cl 18 [.ref (S + 1), .int 3, .int x, .int (-6)] M1 = some (some (.int a), M2) → Fr M1 M2 (S + 2) (S + 14) → ∃ M3, cl 33 [.ref S, .int x] M = some (some (.int a), M3) ∧ Aft M M2 M3 S := by
  obtain ⟨M1, a1, a2⟩ := prep_ok hC hH
  refine ⟨M1, a2, ?_⟩
  intro x a M2 b1 b2
  obtain ⟨⟨K0, P0, P1, P5, P6⟩, SN, ⟨KH, PH, KR, RG⟩, TQ, TW⟩ := id hC
  have e2 : M2.2.2 = M.2.2 := b2.1.trans a2.1
  obtain ⟨M3, c1, c2, c3, c4⟩ := rec_ok (M := M2) (S := S) (hC.st e2) (hH.fr ((b2.2 (S + 14) (by omega)).1.trans (a2.2 (S + 14) (by omega)).1)) a
  refine ⟨M3, ?_, c2.trans e2, c3, c4⟩
  show rn 33 0 [some (.ref S), some (.int x)] [] M = _
  simp only [t33_0, t33_1, t33_4, t33_5, t33_8, t33_11, t33_12, t33_13, t33_16, t33_17, t33_18, t33_20, t33_23, t33_26, K0, P0, P1, KH, SN.1, SN.2.1, SN.2.2.1, SN.2.2.2.1.1, SN.2.2.2.2.1, va_rf_s, ↓reduceIte, a1, cbn_v, cbn_i, KK a2.1, PK a2.1, b1, KK b2.1, PK b2.1, c1]
theorem pub_need {M : SM} {S : Nat} (hC : ClsAt M S) (hH : HistC M S) : ∃ M1, Fr M M1 (S + 16) (S + 107) ∧ ∀ (x y : Int32) (a : Int32) (M2 : SM), cl 35 [.ref (S + 1), .int x, .int y] M1 = some (some (.int a), M2) → Fr M1 M2 (S + 2) (S + 14) → ∃ M3, cl 34 [.ref S, .int x, .int y] M = some (some (.int a), M3) ∧ Aft M M2 M3 S := by
  obtain ⟨M1, a1, a2⟩ := prep_ok hC hH
  refine ⟨M1, a2, ?_⟩
  intro x y a M2 b1 b2
  obtain ⟨⟨K0, P0, P1, P5, P6⟩, SN, ⟨KH, PH, KR, RG⟩, TQ, TW⟩ := id hC
  have e2 : M2.2.2 = M.2.2 := b2.1.trans a2.1
  obtain ⟨M3, c1, c2, c3, c4⟩ := rec_ok (M := M2) (S := S) (hC.st e2) (hH.fr ((b2.2 (S + 14) (by omega)).1.trans (a2.2 (S + 14) (by omega)).1)) a
  refine ⟨M3, ?_, c2.trans e2, c3, c4⟩
  show rn 34 0 [some (.ref S), some (.int x), some (.int y)] [] M = _
  simp only [t34_0, t34_1, t34_4, t34_5, t34_8, t34_11, t34_12, t34_13, t34_16, t34_17, t34_18, t34_21, t34_24, K0, P0, P1, KH, SN.1, SN.2.1, SN.2.2.1, SN.2.2.2.1.1, SN.2.2.2.2.1, va_rf_s, ↓reduceIte, a1, cbn_v, cbn_i, KK a2.1, PK a2.1, b1, KK b2.1, PK b2.1, c1]
theorem pub_lose {M : SM} {S : Nat} (hC : ClsAt M S) (hH : HistC M S) : ∃ M1, Fr M M1 (S + 16) (S + 107) ∧ ∀ (x : Int32) (a : Int32) (M2 : SM), cl 40 [.ref (S + 1), .int x, .int 0] M1 = some (some (.int a), M2) → Fr M1 M2 (S + 2) (S + 14) → ∃ M3, cl 38 [.ref S, .int x] M = some (some (.int a), M3) ∧ Aft M M2 M3 S := by
  obtain ⟨M1, a1, a2⟩ := prep_ok hC hH
  refine ⟨M1, a2, ?_⟩
  intro x a M2 b1 b2
  obtain ⟨⟨K0, P0, P1, P5, P6⟩, SN, ⟨KH, PH, KR, RG⟩, TQ, TW⟩ := id hC
  have e2 : M2.2.2 = M.2.2 := b2.1.trans a2.1
  obtain ⟨M3, c1, c2, c3, c4⟩ := rec_ok (M := M2) (S := S) (hC.st e2) (hH.fr ((b2.2 (S + 14) (by omega)).1.trans (a2.2 (S + 14) (by omega)).1)) a
  refine ⟨M3, ?_, c2.trans e2, c3, c4⟩
  have b1 : cl 39 [.ref (S + 1), .int x] M1 = some (some (.int a), M2) := by
    show rn 39 0 [some (.ref (S + 1)), some (.int x)] [] M1 = _
    simp only [t39_0, t39_1, t39_2, t39_3, t39_6, KK a2.1, SN.1, ↓reduceIte, b1, cbn_i]
  show rn 38 0 [some (.ref S), some (.int x)] [] M = _
  simp only [t38_0, t38_1, t38_4, t38_5, t38_8, t38_11, t38_12, t38_13, t38_16, t38_17, t38_20, t38_23, K0, P0, P1, KH, SN.1, SN.2.1, SN.2.2.1, SN.2.2.2.1.1, SN.2.2.2.2.1, va_rf_s, ↓reduceIte, a1, cbn_v, cbn_i, KK a2.1, PK a2.1, b1, KK b2.1, PK b2.1, c1]
theorem pub_find {M : SM} {S : Nat} (hC : ClsAt M S) (hH : HistC M S) : ∃ M1, Fr M M1 (S + 16) (S + 107) ∧ ∀ (x : Int32) (a : Int32) (M2 : SM), cl 40 [.ref (S + 1), .int x, .int 1] M1 = some (some (.int a), M2) → Fr M1 M2 (S + 2) (S + 14) → ∃ M3, cl 43 [.ref S, .int x] M = some (some (.int a), M3) ∧ Aft M M2 M3 S := by
  obtain ⟨M1, a1, a2⟩ := prep_ok hC hH
  refine ⟨M1, a2, ?_⟩
  intro x a M2 b1 b2
  obtain ⟨⟨K0, P0, P1, P5, P6⟩, SN, ⟨KH, PH, KR, RG⟩, TQ, TW⟩ := id hC
  have e2 : M2.2.2 = M.2.2 := b2.1.trans a2.1
  obtain ⟨M3, c1, c2, c3, c4⟩ := rec_ok (M := M2) (S := S) (hC.st e2) (hH.fr ((b2.2 (S + 14) (by omega)).1.trans (a2.2 (S + 14) (by omega)).1)) a
  refine ⟨M3, ?_, c2.trans e2, c3, c4⟩
  have b1 : cl 44 [.ref (S + 1), .int x] M1 = some (some (.int a), M2) := by
    show rn 44 0 [some (.ref (S + 1)), some (.int x)] [] M1 = _
    simp only [t44_0, t44_1, t44_2, t44_3, t44_6, KK a2.1, SN.1, ↓reduceIte, b1, cbn_i]
  show rn 43 0 [some (.ref S), some (.int x)] [] M = _
  simp only [t43_0, t43_1, t43_4, t43_5, t43_8, t43_11, t43_12, t43_13, t43_16, t43_17, t43_20, t43_23, K0, P0, P1, KH, SN.1, SN.2.1, SN.2.2.1, SN.2.2.2.1.1, SN.2.2.2.2.1, va_rf_s, ↓reduceIte, a1, cbn_v, cbn_i, KK a2.1, PK a2.1, b1, KK b2.1, PK b2.1, c1]
theorem pub_round {M : SM} {S : Nat} (hC : ClsAt M S) (hH : HistC M S) : ∃ M1, Fr M M1 (S + 16) (S + 107) ∧ ∀ (a : Int32) (M2 : SM), cl 47 [.ref (S + 1 + 7), .ref (S + 1 + 1)] M1 = some (some (.int a), M2) → Fr M1 M2 (S + 2) (S + 14) → ∃ M3, cl 46 [.ref S] M = some (some (.int a), M3) ∧ Aft M M2 M3 S := by
  obtain ⟨M1, a1, a2⟩ := prep_ok hC hH
  refine ⟨M1, a2, ?_⟩
  intro  a M2 b1 b2
  obtain ⟨⟨K0, P0, P1, P5, P6⟩, SN, ⟨KH, PH, KR, RG⟩, TQ, TW⟩ := id hC
  have e2 : M2.2.2 = M.2.2 := b2.1.trans a2.1
  obtain ⟨M3, c1, c2, c3, c4⟩ := rec_ok (M := M2) (S := S) (hC.st e2) (hH.fr ((b2.2 (S + 14) (by omega)).1.trans (a2.2 (S + 14) (by omega)).1)) a
  refine ⟨M3, ?_, c2.trans e2, c3, c4⟩
  show rn 46 0 [some (.ref S)] [] M = _
  simp only [t46_0, t46_1, t46_4, t46_5, t46_8, t46_11, t46_12, t46_13, t46_16, t46_19, t46_20, t46_23, t46_26, t46_29, t46_32, K0, P0, P1, KH, SN.1, SN.2.1, SN.2.2.1, SN.2.2.2.1.1, SN.2.2.2.2.1, va_rf_s, ↓reduceIte, a1, cbn_v, cbn_i, KK a2.1, PK a2.1, b1, KK b2.1, PK b2.1, c1]
theorem pub_replay {M : SM} {S : Nat} (hC : ClsAt M S) (hH : HistC M S) : ∃ M1, Fr M M1 (S + 16) (S + 107) ∧ ∀ (a : Int32) (M2 : SM), cl 58 [.ref (S + 1 + 7), .ref (S + 1 + 1)] M1 = some (some (.int a), M2) → Fr M1 M2 (S + 2) (S + 14) → ∃ M3, cl 57 [.ref S] M = some (some (.int a), M3) ∧ Aft M M2 M3 S := by
  obtain ⟨M1, a1, a2⟩ := prep_ok hC hH
  refine ⟨M1, a2, ?_⟩
  intro  a M2 b1 b2
  obtain ⟨⟨K0, P0, P1, P5, P6⟩, SN, ⟨KH, PH, KR, RG⟩, TQ, TW⟩ := id hC
  have e2 : M2.2.2 = M.2.2 := b2.1.trans a2.1
  obtain ⟨M3, c1, c2, c3, c4⟩ := rec_ok (M := M2) (S := S) (hC.st e2) (hH.fr ((b2.2 (S + 14) (by omega)).1.trans (a2.2 (S + 14) (by omega)).1)) a
  refine ⟨M3, ?_, c2.trans e2, c3, c4⟩
  show rn 57 0 [some (.ref S)] [] M = _
  simp only [t57_0, t57_1, t57_4, t57_5, t57_8, t57_11, t57_12, t57_13, t57_16, t57_19, t57_20, t57_23, t57_26, t57_29, t57_32, K0, P0, P1, KH, SN.1, SN.2.1, SN.2.2.1, SN.2.2.2.1.1, SN.2.2.2.2.1, va_rf_s, ↓reduceIte, a1, cbn_v, cbn_i, KK a2.1, PK a2.1, b1, KK b2.1, PK b2.1, c1]
theorem pub_anew {M : SM} {S : Nat} (hC : ClsAt M S) (hH : HistC M S) : ∃ M1, Fr M M1 (S + 16) (S + 107) ∧ ∀ (a : Int32) (M2 : SM), cl 7 [.ref (S + 1 + 7)] M1 = some (none, M2) → a = nI (cnt (bt (mJ M1 (S + 1 + 7) 0)) 64) → Fr M1 M2 (S + 2) (S + 14) → ∃ M3, cl 45 [.ref S] M = some (some (.int a), M3) ∧ Aft M M2 M3 S := by
  obtain ⟨M1, a1, a2⟩ := prep_ok hC hH
  refine ⟨M1, a2, ?_⟩
  intro a M2 b1 ha b2
  obtain ⟨⟨K0, P0, P1, P5, P6⟩, SN, ⟨KH, PH, KR, RG⟩, TQ, TW⟩ := id hC
  have e2 : M2.2.2 = M.2.2 := b2.1.trans a2.1
  obtain ⟨M3, c1, c2, c3, c4⟩ := rec_ok (M := M2) (S := S) (hC.st e2) (hH.fr ((b2.2 (S + 14) (by omega)).1.trans (a2.2 (S + 14) (by omega)).1)) a
  refine ⟨M3, ?_, c2.trans e2, c3, c4⟩
  show rn 45 0 [some (.ref S), none] [] M = _
  simp only [t45_0, t45_1, t45_4, t45_5, t45_8, t45_11, t45_12, t45_15, t45_18, t45_21, t45_24, t45_25, t45_26, t45_29, t45_32, t45_35, t45_36, t45_37, t45_40, K0, P0, P1, KH, SN.1, SN.2.1, SN.2.2.1, SN.2.2.2.1.1, SN.2.2.2.2.1, va_rf_s, ↓reduceIte, a1, cbn_v, cbn_i, KK a2.1, PK a2.1, b1, KK b2.1, PK b2.1, c1, c_bitCount, ← ha]
