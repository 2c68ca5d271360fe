/-! as in whole -/
theorem le40 {k : Nat} (hk : k < 2147483648) : ((40 : Int32) ≤ nI k) = (40 ≤ k) := i_le (a := 40) (by decide) hk
def rdM (M : SM) (r h n : Nat) : Int64 := rdyB (mJ M (h + 4)) n (mJ M h 1) (mJ M r 0)
/-- the memory behind a round -/
def mkR (M : SM) (r h n : Nat) : SM := rrF M r (rrS (mI M (h + 1)) (mI M (h + 2)) (mI M (h + 3)) (rdM M r h n) (mI M r 2) (rS0 M r) n) (rdM M r h n)
theorem c_makeRound {M : SM} {r h n : Nat} (hR : RepAt M r) (hL : LogAt M h) (hn : mI M h 0 = nI n) (h40 : n ≤ 40) (hdis : h + 6 ≤ r ∨ r + 6 ≤ h) (hE : ∀ e, e < n → EntOK (mI M (h + 1)) (mI M (h + 2)) (mI M (h + 3)) e) :
    cl 47 [.ref r, .ref h] M = some (some (.int (nI (cnt (bt (rdM M r h n)) 64))), mkR M r h n) := by
  show rn 47 0 [some (.ref r), some (.ref h)] [] M = _
  simp only [t47_0, t47_1, t47_2, t47_3, t47_4, t47_7, t47_10, hR.1, ↓reduceIte, c_ready hR hL hn h40, cbn_i, c_replayReady hR hL hn h40 hdis _ hE]
  rfl
theorem mkR_st (M : SM) (r h n : Nat) : (mkR M r h n).2.2 = M.2.2 := rfl
theorem mkR_I {M : SM} {r h n b : Nat} (hb : b < r ∨ r + 6 ≤ b) : mI (mkR M r h n) b = mI M b := by
  unfold mkR rrF
  rw [mI_sI, if_neg (by omega), mI_sJ, rMem_n _ _ _ (by omega)]
theorem mkR_J {M : SM} {r h n b : Nat} (hb : b ≠ r) : mJ (mkR M r h n) b = mJ M b := by
  unfold mkR rrF
  rw [mJ_sI, mJ_sJ, if_neg hb, rMem_Jn _ _ _ hb]
def itR (M : SM) (r h n : Nat) : Nat → SM
  | 0 => M
  | j + 1 => mkR (itR M r h n j) r h n
theorem itR_st (M : SM) (r h n : Nat) : ∀ j, (itR M r h n j).2.2 = M.2.2
  | 0 => rfl
  | j + 1 => itR_st M r h n j
theorem itR_I {M : SM} {r h n b : Nat} (hb : b < r ∨ r + 6 ≤ b) : ∀ j, mI (itR M r h n j) b = mI M b
  | 0 => rfl
  | j + 1 => (mkR_I hb).trans (itR_I hb j)
theorem itR_J {M : SM} {r h n b : Nat} (hb : b ≠ r) : ∀ j, mJ (itR M r h n j) b = mJ M b
  | 0 => rfl
  | j + 1 => (mkR_J hb).trans (itR_J hb j)
theorem RepAt.st {M M' : SM} {r : Nat} (h : RepAt M r) (e : M'.2.2 = M.2.2) : RepAt M' r := by
  have e1 : mK M' = mK M := congrArg (fun z => z.2.1) e
  have e2 : mP M' = mP M := congrArg (fun z => z.1) e
  unfold RepAt TreeAt at *
  rw [e1, e2]
  exact h
theorem LogAt.st {M M' : SM} {r : Nat} (h : LogAt M r) (e : M'.2.2 = M.2.2) : LogAt M' r := by
  have e1 : mK M' = mK M := congrArg (fun z => z.2.1) e
  have e2 : mP M' = mP M := congrArg (fun z => z.1) e
  unfold LogAt at *
  rw [e1, e2]
  exact h
theorem TreeAt.st {M M' : SM} {r : Nat} (h : TreeAt M r) (e : M'.2.2 = M.2.2) : TreeAt M' r := by
  have e1 : mK M' = mK M := congrArg (fun z => z.2.1) e
  have e2 : mP M' = mP M := congrArg (fun z => z.1) e
  unfold TreeAt at *
  rw [e1, e2]
  exact h
theorem c_makeRounds {M : SM} {r h n : Nat} (hR : RepAt M r) (hL : LogAt M h) (hn : mI M h 0 = nI n) (h40 : n ≤ 40) (hdis : h + 6 ≤ r ∨ r + 6 ≤ h) (hE : ∀ e, e < n → EntOK (mI M (h + 1)) (mI M (h + 2)) (mI M (h + 3)) e) :
    ∃ j, j ≤ 40 ∧ (∀ i, i < j → ¬ rdM (itR M r h n i) r h n = 0) ∧ (j = 40 ∨ rdM (itR M r h n j) r h n = 0) ∧ cl 58 [.ref r, .ref h] M = some (some (.int (nI j)), itR M r h n j) := by
  have eh : ∀ j, mI (itR M r h n j) h = mI M h := itR_I (by omega)
  have e1 : ∀ j, mI (itR M r h n j) (h + 1) = mI M (h + 1) := itR_I (by omega)
  have e2 : ∀ j, mI (itR M r h n j) (h + 2) = mI M (h + 2) := itR_I (by omega)
  have e3 : ∀ j, mI (itR M r h n j) (h + 3) = mI M (h + 3) := itR_I (by omega)
  have hRj : ∀ j, RepAt (itR M r h n j) r := fun j => hR.st (itR_st _ _ _ _ j)
  have hLj : ∀ j, LogAt (itR M r h n j) h := fun j => hL.st (itR_st _ _ _ _ j)
  have hnj : ∀ j, mI (itR M r h n j) h 0 = nI n := fun j => by rw [eh]; exact hn
  have hEj : ∀ j e, e < n → EntOK (mI (itR M r h n j) (h + 1)) (mI (itR M r h n j) (h + 2)) (mI (itR M r h n j) (h + 3)) e := fun j => by rw [e1, e2, e3]; exact hE
  have hrd : ∀ j, cl 48 [.ref r, .ref h] (itR M r h n j) = some (some (.long (rdM (itR M r h n j) r h n)), itR M r h n j) := fun j => c_ready (hRj j) (hLj j) (hnj j) h40
  have hrr : ∀ j, cl 49 [.ref r, .ref h, .long (rdM (itR M r h n j) r h n)] (itR M r h n j) = some (some (.int (nI (cnt (bt (rdM (itR M r h n j) r h n)) 64))), itR M r h n (j + 1)) := fun j => c_replayReady (hRj j) (hLj j) (hnj j) h40 hdis _ (hEj j)
  have lp : ∀ d i, d + i = 40 → ∃ j, i ≤ j ∧ j ≤ 40 ∧ (∀ k, i ≤ k → k < j → ¬ rdM (itR M r h n k) r h n = 0) ∧ (j = 40 ∨ rdM (itR M r h n j) r h n = 0) ∧ rn 58 8 [some (.ref r), some (.ref h), some (.int (nI i)), some (.long (rdM (itR M r h n i) r h n)), none] [] (itR M r h n i) = some (some (.int (nI j)), itR M r h n j) := by
    intro d
    induction d with
    | zero =>
      intro i hi
      obtain rfl : i = 40 := by omega
      refine ⟨40, Nat.le_refl _, Nat.le_refl _, fun k h1 h2 => by omega, Or.inl rfl, ?_⟩
      rw [t58_8]
      simp only [t58_0, t58_1, t58_2, t58_3, t58_4, t58_7, t58_9, t58_11, t58_14, t58_15, t58_16, t58_17, t58_20, t58_21, t58_22, t58_23, t58_26, t58_27, t58_30, t58_31, t58_32, t58_35, t58_36, t58_39, t58_40, le40 (show 40 < 2147483648 by omega), Nat.le_refl, ↓reduceIte]
    | succ d ih =>
      intro i hi
      by_cases hz : rdM (itR M r h n i) r h n = 0
      · refine ⟨i, Nat.le_refl _, by omega, fun k h1 h2 => by omega, Or.inr hz, ?_⟩
        rw [t58_8]
        simp only [t58_0, t58_1, t58_2, t58_3, t58_4, t58_7, t58_9, t58_11, t58_14, t58_15, t58_16, t58_17, t58_20, t58_21, t58_22, t58_23, t58_26, t58_27, t58_30, t58_31, t58_32, t58_35, t58_36, t58_39, t58_40, le40 (show i < 2147483648 by omega), show ¬ 40 ≤ i by omega, hz, lg_cmp_eq, ↓reduceIte]
      · obtain ⟨j, j1, j2, j3, j4, j5⟩ := ih (i + 1) (by omega)
        refine ⟨j, by omega, j2, fun k h1 h2 => ?_, j4, ?_⟩
        · by_cases hk : k = i
          · rw [hk]; exact hz
          · exact j3 k (by omega) h2
        · rw [t58_8]
          simp only [t58_0, t58_1, t58_2, t58_3, t58_4, t58_7, t58_9, t58_11, t58_14, t58_15, t58_16, t58_17, t58_20, t58_21, t58_22, t58_23, t58_26, t58_27, t58_30, t58_31, t58_32, t58_35, t58_36, t58_39, t58_40, le40 (show i < 2147483648 by omega), show ¬ 40 ≤ i by omega, hz, lg_cmp_eq, ↓reduceIte, (hRj i).1, (hRj (i + 1)).1, hrr, hrd, cbn_i, n1]
          exact j5
  obtain ⟨j, -, j2, j3, j4, j5⟩ := lp 40 0 (by omega)
  refine ⟨j, j2, fun i hi => j3 i (Nat.zero_le _) hi, j4, ?_⟩
  show rn 58 0 [some (.ref r), some (.ref h), none, none, none] [] M = _
  have h0 := hrd 0
  rw [show itR M r h n 0 = M from rfl] at h0 j5
  simp only [t58_0, t58_1, t58_2, t58_3, t58_4, t58_7, t58_9, t58_11, t58_14, t58_15, t58_16, t58_17, t58_20, t58_21, t58_22, t58_23, t58_26, t58_27, t58_30, t58_31, t58_32, t58_35, t58_36, t58_39, t58_40, hR.1, ↓reduceIte, h0, cbn_i]
  exact j5
