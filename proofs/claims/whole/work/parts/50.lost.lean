/-! lost, found -/
theorem lost_eq {K F A : Nat → Int32} {nd ln : Nat → Int64} {lost : Int64} {w : Nat → Int32} {n : Nat} (h : LRel K F A nd ln lost w n) : mk (fun e => decide (w (2 + 8 * e + 3) = 1)) n = lost := by
  obtain ⟨n40, w0, ok, row, lst, lsn, nds, ndb, lns⟩ := h
  apply bt_ext
  intro i hi
  rw [bt_mk _ _ _ (by omega)]
  by_cases q : i < n
  · rw [lst i q]
    cases bt lost i <;> simp [q]
  · rw [lsn i (by omega)]
    simp [q]
theorem c_lostOnes {C M : SM} {h m n : Nat} (hm : ModAt M m) (hL : LR C h (mI M (m + 1)) n) : cl 129 [.ref m] M = some (some (.long (mJ C h 1)), M) := by
  rw [c_mLost hm hL.2.2.1 hL.2.1, lost_eq hL.2]
theorem orpB_b {g : Nat → Int64} {n k : Nat} {x : Int64} (h40 : n ≤ 40) (h : bt (orpB g n x) k = true) : k < n := by
  unfold orpB at h
  rw [bt_and, bt_mk _ _ _ (by omega)] at h
  simp only [Bool.and_eq_true, decide_eq_true_eq] at h
  exact h.1.1
theorem LRel_lost {K F A : Nat → Int32} {nd ln : Nat → Int64} {lost : Int64} {w : Nat → Int32} {n e : Nat} {b : Bool} (h : LRel K F A nd ln lost w n) (he : e < n) (hb : bt lost e = b) : LRel K F A nd ln (lost ^^^ bE e) (va_up w (2 + 8 * e + 3) (if b = true then 0 else 1)) n := by
  obtain ⟨n40, w0, ok, row, lst, lsn, nds, ndb, lns⟩ := h
  refine ⟨n40, (va_up_ne _ _ (by omega)).trans w0, ok, ?_, ?_, ?_, ?_, ndb, lns⟩
  · intro x hx
    rw [va_up_ne _ _ (by omega), va_up_ne _ _ (by omega), va_up_ne _ _ (by omega)]
    exact row x hx
  · intro x hx
    rw [bt_xor, bt_bE (by omega)]
    by_cases q : x = e
    · subst q
      rw [va_up_self, hb]
      cases b <;> simp
    · rw [va_up_ne _ _ (by omega), lst x hx]
      simp [q]
  · intro x hx
    rw [bt_xor, bt_bE (by omega), lsn x hx]
    simp [show ¬ x = e by omega]
  · intro x hx
    rw [← nds x hx]
    unfold rNd
    rw [va_up_ne _ _ (by omega), va_up_ne _ _ (by omega)]
theorem st_lost {C : SM} {s n R : Nat} {w : Nat → Int32} (hC : StAt C s) (hS : SR C s w n R) (x : Int32) (b : Bool) : ∃ e C', cl 40 [.ref s, .int x, .int (if b = true then 1 else 0)] C = some (some (.int e), C') ∧ Fr C C' (s + 1) (s + 13) ∧ StepR C C' s w e (fun M m => cl 127 [.ref m, .int x, .int (if b = true then 0 else 1)] M) (fun M m => cl 128 [.ref m, .int x, .int (if b = true then 0 else 1)] M) 0 := by
  obtain ⟨k1, k2, k3, k4, k5⟩ := hC
  have hL := hS.1
  have n40 := hL.2.1
  have hl := c_lhas k4 (M := C)
  rw [hL.1] at hl
  have one0 : ((1 : Int32) = 0) = False := by decide
  have z01 : ((0 : Int32) = 1) = False := by decide
  by_cases q1 : x < 0 ∨ nI n ≤ x
  · refine ⟨-1, C, ?_, Fr.refl _ _ _, Or.inl ⟨by decide, rfl, fun M m hm hw => ?_⟩⟩
    · show rn 40 0 [some (.ref s), some (.int x), some (.int (if b = true then 1 else 0))] [] C = _
      simp only [t40_0, t40_1, t40_4, t40_5, t40_8, t40_11, t40_12, t40_13, t40_14, t40_17, t40_20, t40_21, t40_24, t40_25, t40_28, t40_30, t40_31, t40_32, t40_35, t40_36, t40_39, t40_40, t40_43, t40_44, t40_47, t40_48, t40_51, t40_54, t40_55, t40_58, t40_61, t40_64, k1, k2, k4.1, va_rf_s, hl, cbn_i, q1, ↓reduceIte, not_true_eq_false]
    · show rn 127 0 [some (.ref m), some (.int x), some (.int (if b = true then 0 else 1))] [] M = _
      have hi := c_mEntry (n := n) hm (by rw [hw]; exact hL.2.2.1) n40 x
      simp only [t127_0, t127_1, t127_2, t127_5, t127_8, t127_9, t127_12, t127_13, t127_14, t127_15, t127_18, t127_19, t127_22, t127_24, t127_27, t127_28, hm.1, hi, cbn_i, q1, ↓reduceIte, not_true_eq_false]
  · obtain ⟨e, he, rfl⟩ := ent_of (n := n) (by omega) q1
    have i1 := ent_in (n := n) (by omega) he
    have ho := c_holds (mJ C (s + 1) 1) (k := e) (by omega) C
    have why : ∀ M m, ModAt M m → mI M (m + 1) = w → cl 127 [.ref m, .int (nI e), .int (if b = true then 0 else 1)] M = some (some (.int (if bt (mJ C (s + 1) 1) e = b then 0 else -5)), M) := by
      intro M m hm hw
      have hi := c_mEntry (n := n) hm (by rw [hw]; exact hL.2.2.1) n40 (nI e)
      have hp := c_part hm (show e < 40 by omega) (show 3 < 8 by decide)
      rw [hw, hL.2.2.2.2.2.1 e he, show nI 3 = 3 from rfl] at hp
      show rn 127 0 [some (.ref m), some (.int (nI e)), some (.int (if b = true then 0 else 1))] [] M = _
      cases b <;> cases hbt : bt (mJ C (s + 1) 1) e <;> rw [hbt] at hp <;> simp only [t127_0, t127_1, t127_2, t127_5, t127_8, t127_9, t127_12, t127_13, t127_14, t127_15, t127_18, t127_19, t127_22, t127_24, t127_27, t127_28, hm.1, hi, hp, cbn_i, i1, one0, z01, ↓reduceIte, not_true_eq_false, not_false_eq_true, Bool.false_eq_true, Bool.true_eq_false]
    by_cases q2 : bt (mJ C (s + 1) 1) e = b
    · obtain ⟨C1, hC1⟩ : ∃ C1, C1 = sJ C (s + 1) (va_up (mJ C (s + 1)) 1 (mJ C (s + 1) 1 ^^^ bE e)) := ⟨_, rfl⟩
      have f1 : Fr C C1 (s + 1) (s + 2) := by rw [hC1]; exact Fr.sJ _ (by omega) (by omega)
      have hcl := c_rClear (M := C1) (r := s + 7) (k5.st f1.1)
      have f2 := (Fr_rClr C1 (s + 7)).mono (lo' := s + 1) (hi' := s + 13) (by omega) (by omega)
      have f12 := (f1.mono (lo' := s + 1) (hi' := s + 13) (by omega) (by omega)).trans f2
      have hL1 : LR C1 (s + 1) (va_up w (2 + 8 * e + 3) (if b = true then 0 else 1)) n := by
        have := LRel_lost hL.2 he q2
        unfold LR
        rw [hC1]
        simp only [mI_sJ, mJ_sJ, ↓reduceIte, show ¬ s + 1 + 4 = s + 1 by omega, show ¬ s + 1 + 5 = s + 1 by omega, va_up_self]
        exact ⟨hL.1, this⟩
      have hL2 := LR_fr hL1 (Fr_rClr C1 (s + 7)) (by omega)
      have hor := c_orphans (M := rClr C1 (s + 7)) (h := s + 1) (n := n) (k4.st f12.1) hL2.1 n40
      refine ⟨nI (cnt (bt (orpB (mJ (rClr C1 (s + 7)) (s + 1 + 5)) n (mJ (rClr C1 (s + 7)) (s + 1) 1))) 64), rClr C1 (s + 7), ?_, f12, Or.inr ⟨nI_pos (by have := cnt_le (bt (orpB (mJ (rClr C1 (s + 7)) (s + 1 + 5)) n (mJ (rClr C1 (s + 7)) (s + 1) 1))) 64; omega), fun M m hm hw => ⟨?_, ?_⟩⟩⟩
      · show rn 40 0 [some (.ref s), some (.int (nI e)), some (.int (if b = true then 1 else 0))] [] C = _
        cases b <;> simp only [t40_0, t40_1, t40_4, t40_5, t40_8, t40_11, t40_12, t40_13, t40_14, t40_17, t40_20, t40_21, t40_24, t40_25, t40_28, t40_30, t40_31, t40_32, t40_35, t40_36, t40_39, t40_40, t40_43, t40_44, t40_47, t40_48, t40_51, t40_54, t40_55, t40_58, t40_61, t40_64, k1, k2, k3, k4.1, va_rf_s, hl, ho, cbn_i, cbn_v, i1, q2, one0, c_bit, ↓reduceIte, not_true_eq_false, not_false_eq_true, Bool.false_eq_true] <;> rw [← hC1] <;> simp only [t40_0, t40_1, t40_4, t40_5, t40_8, t40_11, t40_12, t40_13, t40_14, t40_17, t40_20, t40_21, t40_24, t40_25, t40_28, t40_30, t40_31, t40_32, t40_35, t40_36, t40_39, t40_40, t40_43, t40_44, t40_47, t40_48, t40_51, t40_54, t40_55, t40_58, t40_61, t40_64, KK f1.1, PK f1.1, KK f12.1, PK f12.1, k1, k2, k3, k4.1, k5.1, va_rf_s, hcl, hor, c_bitCount, cbn_i, cbn_v, ↓reduceIte]
      · refine (why M m hm hw).trans ?_
        rw [if_pos q2]
      · have hsp := c_setPart hm (show e < 40 by omega) (show 3 < 8 by decide) (if b = true then 0 else 1)
        rw [hw, show nI 3 = 3 from rfl] at hsp
        obtain ⟨W, b1, b2, b3⟩ := anew_both (C' := rClr C1 (s + 7)) hL1 (RR_fr hS.2 f1 (by omega)) rfl (sI M (m + 1) (va_up w (2 + 8 * e + 3) (if b = true then 0 else 1))) m (hm.sI _ _) (by rw [mI_sI, if_pos rfl])
        rw [sI_sI] at b1
        have hmW : ModAt (sI M (m + 1) W) m := hm.sI _ _
        have hLW : LR (rClr C1 (s + 7)) (s + 1) (mI (sI M (m + 1) W) (m + 1)) n := by rw [mI_sI, if_pos rfl]; exact b2.1
        have h129 := c_lostOnes hmW hLW
        have h130 := c_orphansRel hmW hLW (mJ (rClr C1 (s + 7)) (s + 1) 1)
        refine ⟨flM (sI M (m + 1) W) m n, ?_, (OpF.sI _ _ _).trans (OpF.flM _ _ _), n, 0, Nat.le_refl _, ?_⟩
        · show rn 128 0 [some (.ref m), some (.int (nI e)), some (.int (if b = true then 0 else 1))] [] M = _
          simp only [t128_0, t128_1, t128_2, t128_3, t128_4, t128_7, t128_8, t128_11, t128_12, t128_13, t128_16, t128_19, t128_22, hm.1, hsp, cbn_v, cbn_i, mK_sI, b1, h129, h130, KK (flM_st _ _ _), c_bits, cnt_40 n40 (fun k => orpB_b n40), ↓reduceIte]
        · rw [flM_I, mI_sI, if_pos rfl]; exact b2
    · refine ⟨-5, C, ?_, Fr.refl _ _ _, Or.inl ⟨by decide, rfl, fun M m hm hw => ?_⟩⟩
      · show rn 40 0 [some (.ref s), some (.int (nI e)), some (.int (if b = true then 1 else 0))] [] C = _
        cases b <;> cases hbt : bt (mJ C (s + 1) 1) e <;> simp only [hbt, not_true_eq_false] at q2 ho <;> simp only [t40_0, t40_1, t40_4, t40_5, t40_8, t40_11, t40_12, t40_13, t40_14, t40_17, t40_20, t40_21, t40_24, t40_25, t40_28, t40_30, t40_31, t40_32, t40_35, t40_36, t40_39, t40_40, t40_43, t40_44, t40_47, t40_48, t40_51, t40_54, t40_55, t40_58, t40_61, t40_64, k1, k2, k4.1, va_rf_s, hl, ho, cbn_i, i1, one0, z01, ↓reduceIte, not_true_eq_false, not_false_eq_true, Bool.false_eq_true]
      · refine (why M m hm hw).trans ?_
        rw [if_neg q2]
