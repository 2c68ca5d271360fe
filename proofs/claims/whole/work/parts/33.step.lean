/-! one round on both sides -/
theorem LR_mkR {M : SM} {r h n : Nat} {w : Nat → Int32} (hd : h + 6 ≤ r) : LR (mkR M r h n) h w n = LR M h w n := by
  unfold LR
  rw [mkR_I (b := h) (by omega), mkR_I (b := h + 1) (by omega), mkR_I (b := h + 2) (by omega), mkR_I (b := h + 3) (by omega), mkR_J (b := h + 4) (by omega), mkR_J (b := h + 5) (by omega), mkR_J (b := h) (by omega)]
theorem RR_mkR {M : SM} {r h n R : Nat} {u : Nat → Int32} {s : RS} (hs : s = rrS (mI M (h + 1)) (mI M (h + 2)) (mI M (h + 3)) (rdM M r h n) (mI M r 2) (rS0 M r) n) :
    RR (mkR M r h n) r u n R = RRel (mJ M r 0 ||| rdM M r h n) s.1 s.2.1 s.2.2.1 (mI M r 2 + 1) (if mI M r 3 < nI (cnt (bt (rdM M r h n)) 64) then nI (cnt (bt (rdM M r h n)) 64) else mI M r 3) s.2.2.2.1 s.2.2.2.2 u n R := by
  unfold RR mkR
  rw [← hs]
  unfold rrF
  have a1 : r + 1 ≠ r := by omega
  have a2 : r + 2 ≠ r := by omega
  have a4 : r + 4 ≠ r := by omega
  have a5 : r + 5 ≠ r := by omega
  simp only [mJ_sI, mJ_sJ, mI_sI, mI_sJ, ↓reduceIte, a1, a2, a4, a5, va_up_self, rMem_1, rMem_2, rMem_4, rMem_5, va_up_ne _ _ (show (3 : Nat) ≠ 2 by decide), va_up_ne _ _ (show (1 : Nat) ≠ 0 by decide)]
theorem round_step {M : SM} {r h n R : Nat} {w : Nat → Int32} (hd : h + 6 ≤ r) (hL : LR M h w n) (hR : RR M r w n R) (hb : R + 1 < 2147483648) :
    rdM M r h n = rRd w n ∧ ∀ W, RInv w n (rrS (mI M (h + 1)) (mI M (h + 2)) (mI M (h + 3)) (rRd w n) (w 1) (rS0 M r) n) W → LR (mkR M r h n) h (va_up W 1 (w 1 + 1)) n ∧ RR (mkR M r h n) r (va_up W 1 (w 1 + 1)) n (R + 1) := by
  have e : rdM M r h n = rRd w n := rd_eq hL.2 hR
  refine ⟨e, fun W hW => ?_⟩
  rw [LR_mkR hd, RR_mkR rfl, e]
  have ew : w 1 = mI M r 2 := hR.1.trans hR.2.1.symm
  obtain ⟨a, b⟩ := round_rel hL.2 hR hb rfl (by rw [← ew]; exact hW)
  rw [ew] at a b ⊢
  exact ⟨⟨hL.1, a⟩, b⟩
/-- the reference's round, beside the class's -/
theorem c_roundBoth {C M : SM} {m r h n R : Nat} (hd : h + 6 ≤ r) (hm : ModAt M m) (hL : LR C h (mI M (m + 1)) n) (hR : RR C r (mI M (m + 1)) n R) (hb : R + 1 < 2147483648) :
    rdM C r h n = rRd (mI M (m + 1)) n ∧ ∃ W, cl 136 [.ref m] M = some (some (.int (nI (cnt (bt (rdM C r h n)) 64))), sI M (m + 1) W) ∧ LR (mkR C r h n) h W n ∧ RR (mkR C r h n) r W n (R + 1) := by
  obtain ⟨e, hst⟩ := round_step hd hL hR hb
  refine ⟨e, ?_⟩
  have hLL := hL.2
  obtain ⟨W, hc, hi⟩ := c_makesRound (K := mI C (h + 1)) (F := mI C (h + 2)) (A := mI C (h + 3)) (s0 := rS0 C r) hm hLL.2.1 hLL.1 hLL.2.2.1 hLL.2.2.2.1 (RInv_0 hR) rfl
  refine ⟨_, ?_, hst W hi⟩
  rw [hc, e, (cnt_rd hLL.1).1, (cnt_rd hLL.1).2]
/-- .. and all rounds -/
theorem c_replays {m r h n : Nat} (hd : h + 6 ≤ r) {C : SM} : ∀ (d : Nat) {M : SM} {i j R : Nat}, i + d = j → ModAt M m → LR (itR C r h n i) h (mI M (m + 1)) n → RR (itR C r h n i) r (mI M (m + 1)) n (R + i) → R + j + 1 < 2147483648 →
    (∀ k, k < j → ¬ rdM (itR C r h n k) r h n = 0) → rdM (itR C r h n j) r h n = 0 →
    ∃ W, rn 145 2 [some (.ref m), some (.int (nI i))] [] M = some (some (.int (nI j)), sI M (m + 1) W) ∧ LR (itR C r h n j) h W n ∧ RR (itR C r h n j) r W n (R + j) := by
  intro d
  induction d with
  | zero =>
    intro M i j R hij hm hL hR hb h1 h0
    obtain rfl : i = j := by omega
    refine ⟨mI M (m + 1), ?_, hL, hR⟩
    have e := (round_step hd hL hR (by omega)).1
    have hr := c_readyOnes hm hL.2.2.1 hL.2.1
    rw [← e, h0] at hr
    rw [t145_2, sI_self]
    simp only [t145_0, t145_1, t145_3, t145_6, t145_7, t145_8, t145_11, t145_12, t145_15, t145_16, t145_19, t145_22, t145_23, hm.1, ↓reduceIte, hr, cbn_i, lg_cmp_eq]
  | succ d ih =>
    intro M i j R hij hm hL hR hb h1 h0
    obtain ⟨e, W, hc, hL', hR'⟩ := c_roundBoth hd hm hL hR (by omega)
    have hr := c_readyOnes hm hL.2.2.1 hL.2.1
    rw [← e] at hr
    have hne := h1 i (by omega)
    obtain ⟨W', hc', hL2, hR2⟩ := ih (M := sI M (m + 1) W) (i := i + 1) (j := j) (R := R) (by omega) (hm.sI _ _) (by rw [mI_sI, if_pos rfl]; exact hL') (by rw [mI_sI, if_pos rfl]; exact hR') hb h1 h0
    refine ⟨W', ?_, hL2, hR2⟩
    rw [sI_sI] at hc'
    rw [t145_2]
    simp only [t145_0, t145_1, t145_3, t145_6, t145_7, t145_8, t145_11, t145_12, t145_15, t145_16, t145_19, t145_22, t145_23, hm.1, ↓reduceIte, hr, cbn_i, lg_cmp_eq, hne, hc, mK_sI, n1]
    exact hc'
