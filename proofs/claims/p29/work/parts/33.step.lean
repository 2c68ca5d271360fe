/-! as in whole -/
theorem LR_mkR {M : SM} {r h n : Nat} {w : Nat → Int32} (hd : h + 6 ≤ r) : LR (mkR M r h n) h w n = LR M h w n := by
  unfold LR
  rw [mkR_I (b := h) (by omega), mkR_I (b := h + 1) (by omega), mkR_I (b := h + 2) (by omega), mkR_I (b := h + 3) (by omega), mkR_J (b := h + 4) (by omega), mkR_J (b := h + 5) (by omega), mkR_J (b := h) (by omega)]
theorem RR_mkR {M : SM} {r h n R : Nat} {u : Nat → Int32} {s : RS} (hs : s = rrS (mI M (h + 1)) (mI M (h + 2)) (mI M (h + 3)) (rdM M r h n) (mI M r 2) (rS0 M r) n) :
    RR (mkR M r h n) r u n R = RRel (mJ M r 0 ||| rdM M r h n) s.1 s.2.1 s.2.2.1 (mI M r 2 + 1) (if mI M r 3 < nI (cnt (bt (rdM M r h n)) 64) then nI (cnt (bt (rdM M r h n)) 64) else mI M r 3) s.2.2.2.1 s.2.2.2.2 u n R := by
  unfold RR mkR
  rw [← hs]
  unfold rrF
  have a1 : r + 1 ≠ r := by omega
  have a2 : r + 2 ≠ r := by omega
  have a4 : r + 4 ≠ r := by omega
  have a5 : r + 5 ≠ r := by omega
  simp only [mJ_sI, mJ_sJ, mI_sI, mI_sJ, ↓reduceIte, a1, a2, a4, a5, va_up_self, rMem_1, rMem_2, rMem_4, rMem_5, va_up_ne _ _ (show (3 : Nat) ≠ 2 by decide), va_up_ne _ _ (show (1 : Nat) ≠ 0 by decide)]
theorem round_step {M : SM} {r h n R : Nat} {w : Nat → Int32} (hd : h + 6 ≤ r) (hL : LR M h w n) (hR : RR M r w n R) (hb : R + 1 < 2147483648) :
    rdM M r h n = rRd w n ∧ ∀ W, RInv w n (rrS (mI M (h + 1)) (mI M (h + 2)) (mI M (h + 3)) (rRd w n) (w 1) (rS0 M r) n) W → LR (mkR M r h n) h (va_up W 1 (w 1 + 1)) n ∧ RR (mkR M r h n) r (va_up W 1 (w 1 + 1)) n (R + 1) := by
  have e : rdM M r h n = rRd w n := rd_eq hL.2 hR
  refine ⟨e, fun W hW => ?_⟩
  rw [LR_mkR hd, RR_mkR rfl, e]
  have ew : w 1 = mI M r 2 := hR.1.trans hR.2.1.symm
  obtain ⟨a, b⟩ := round_rel hL.2 hR hb rfl (by rw [← ew]; exact hW)
  rw [ew] at a b ⊢
  exact ⟨⟨hL.1, a⟩, b⟩
