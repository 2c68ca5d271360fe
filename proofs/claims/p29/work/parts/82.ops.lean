/-! a ghost row of the reference's kind, and the class's changes -/
def gW (w ro re D V : Nat → Int32) (n : Nat) (x1 : Int32) : Nat → Int32 := fun j =>
  if j = 1 then x1
  else if 322 ≤ j then (if (j - 322) % 3 = 0 then (if V ((j - 322) / 3) = -6 then 0 else 1) else if (j - 322) % 3 = 1 then D ((j - 322) / 3) else V ((j - 322) / 3))
  else if 2 ≤ j ∧ (j - 2) / 8 < n ∧ (j - 2) % 8 = 4 then ro ((j - 2) / 8)
  else if 2 ≤ j ∧ (j - 2) / 8 < n ∧ (j - 2) % 8 = 5 then re ((j - 2) / 8)
  else w j
theorem gW_1 (w ro re D V : Nat → Int32) (n : Nat) (x : Int32) : gW w ro re D V n x 1 = x := if_pos rfl
theorem gW_t (w ro re D V : Nat → Int32) (n : Nat) (x : Int32) : TR (gW w ro re D V n x) D V := by
  intro f hf
  unfold gW
  refine ⟨?_, ?_, ?_⟩
  · rw [if_neg (by omega), if_pos (by omega), if_pos (by omega), show (322 + 3 * f - 322) / 3 = f by omega]
  · rw [if_neg (by omega), if_pos (by omega), if_neg (by omega), if_pos (by omega), show (322 + 3 * f + 1 - 322) / 3 = f by omega]
  · rw [if_neg (by omega), if_pos (by omega), if_neg (by omega), if_neg (by omega), show (322 + 3 * f + 2 - 322) / 3 = f by omega]
theorem gW_e {w ro re D V : Nat → Int32} {n : Nat} {x : Int32} {e : Nat} (he : e < n) (hn : n ≤ 40) : gW w ro re D V n x (2 + 8 * e + 4) = ro e ∧ gW w ro re D V n x (2 + 8 * e + 5) = re e := by
  unfold gW
  constructor
  · rw [if_neg (by omega), if_neg (by omega), if_pos (by omega), show (2 + 8 * e + 4 - 2) / 8 = e by omega]
  · rw [if_neg (by omega), if_neg (by omega), if_neg (by omega), if_pos (by omega), show (2 + 8 * e + 5 - 2) / 8 = e by omega]
theorem gW_k {w ro re D V : Nat → Int32} {n : Nat} {x : Int32} {j : Nat} (h1 : j ≠ 1) (h2 : j < 322) (h3 : ∀ e, e < n → j ≠ 2 + 8 * e + 4 ∧ j ≠ 2 + 8 * e + 5) : gW w ro re D V n x j = w j := by
  unfold gW
  rw [if_neg h1, if_neg (by omega), if_neg, if_neg]
  · rintro ⟨a, b, c⟩
    have := (h3 _ b).2
    omega
  · rintro ⟨a, b, c⟩
    have := (h3 _ b).1
    omega
theorem TI_rr {K F A : Nat → Int32} {rd : Int64} {rds : Int32} {s0 : RS} {n : Nat} (hE : ∀ e, e < n → EntOK K F A e) (h0 : TI s0.2.2.2.1 s0.2.2.2.2) : ∀ k, k ≤ n → TI (rrS K F A rd rds s0 k).2.2.2.1 (rrS K F A rd rds s0 k).2.2.2.2 := by
  intro k
  induction k with
  | zero => intro _; exact h0
  | succ k ih =>
    intro hk
    have ih := ih (by omega)
    cases hb : bt rd k with
    | false => rw [rrS_no hb]; exact ih
    | true =>
      rw [rrS_yes hb]
      dsimp only
      split
      · rename_i z
        exact TI_play ih (hE k (by omega)).1 z
      · exact ih
theorem k_round {C : SM} {s n R : Nat} {w : Nat → Int32} (hC : StAt C s) (hS : SR C s w n R) (hb : R + 1 < 2147483648) :
    cl 47 [.ref (s + 7), .ref (s + 1)] C = some (some (.int (nI (cnt (bt (rdM C (s + 7) (s + 1) n)) 64))), mkR C (s + 7) (s + 1) n) ∧ ∃ w', SR (mkR C (s + 7) (s + 1) n) s w' n (R + 1) := by
  obtain ⟨k1, k2, k3, k4, k5⟩ := hC
  have n40 := hS.1.2.1
  refine ⟨c_makeRound (M := C) (r := s + 7) (h := s + 1) (n := n) k5 k4 hS.1.1 n40 (by omega) hS.1.2.2.2.1, ?_⟩
  obtain ⟨e, hst⟩ := round_step (r := s + 7) (h := s + 1) (by omega) hS.1 hS.2 hb
  obtain ⟨x, hx⟩ : ∃ x : RS, x = rrS (mI C (s + 1 + 1)) (mI C (s + 1 + 2)) (mI C (s + 1 + 3)) (rRd w n) (w 1) (rS0 C (s + 7)) n := ⟨_, rfl⟩
  have hti : TI x.2.2.2.1 x.2.2.2.2 := by
    rw [hx]; exact TI_rr hS.1.2.2.2.1 hS.2.2.2.2.2.2.2.2.2.2 n (Nat.le_refl _)
  rw [← hx] at hst
  exact ⟨_, hst (gW w x.2.1 x.2.2.1 x.2.2.2.1 x.2.2.2.2 n (w 1)) ⟨fun j h1 h2 => by
    by_cases q : j = 1
    · subst q; exact gW_1 _ _ _ _ _ _ _
    · exact gW_k q h1 h2, fun e he => gW_e he n40, gW_t _ _ _ _ _ _ _, hti⟩⟩
theorem k_rounds {C : SM} {s n R : Nat} {w : Nat → Int32} (hC : StAt C s) (hS : SR C s w n R) : ∀ i, R + i < 2147483648 → ∃ w', SR (itR C (s + 7) (s + 1) n i) s w' n (R + i) := by
  intro i
  induction i with
  | zero => intro _; exact ⟨w, hS⟩
  | succ i ih =>
    intro hb
    obtain ⟨w', hw⟩ := ih (by omega)
    exact (k_round (hC.st (itR_st _ _ _ _ i)) hw (by omega)).2
theorem k_replay {C : SM} {s n R : Nat} {w : Nat → Int32} (hC : StAt C s) (hS : SR C s w n R) :
    ∃ j, j ≤ 40 ∧ (∀ i, i < j → ¬ rdM (itR C (s + 7) (s + 1) n i) (s + 7) (s + 1) n = 0) ∧ rdM (itR C (s + 7) (s + 1) n j) (s + 7) (s + 1) n = 0 ∧ cl 58 [.ref (s + 7), .ref (s + 1)] C = some (some (.int (nI j)), itR C (s + 7) (s + 1) n j) := by
  obtain ⟨k1, k2, k3, k4, k5⟩ := hC
  have n40 := hS.1.2.1
  obtain ⟨j, j1, j2, j3, j4⟩ := c_makeRounds (M := C) (r := s + 7) (h := s + 1) (n := n) k5 k4 hS.1.1 n40 (by omega) hS.1.2.2.2.1
  exact ⟨j, j1, j2, it_end n40 j2 j3, j4⟩
theorem k_anew {C : SM} {s n R : Nat} {w : Nat → Int32} (hL : LR C (s + 1) w n) (hR : RR C (s + 7) w n R) : ∃ w', SR (rClr C (s + 7)) s w' n 0 := by
  have n40 := hL.2.1
  refine ⟨gW w (fun _ => -6) (fun _ => -6) D0 V0 n 0, ?_, ?_⟩
  · exact LR_fr ⟨hL.1, LR_keep hL.2 (gW_k (by decide) (by decide) (fun e he => ⟨by omega, by omega⟩)) (fun e he p hp p4 p5 => gW_k (by omega) (by omega) (fun e' he' => ⟨by omega, by omega⟩))⟩ (Fr_rClr C (s + 7)) (by omega)
  · exact RR_clr n40 (gW_1 _ _ _ _ _ _ _) (fun e he => gW_e he n40) (gW_t _ _ _ _ _ _ _)
theorem k_lost {C : SM} {s n R e : Nat} {w : Nat → Int32} (b : Bool) (hC : StAt C s) (hS : SR C s w n R) (he : e < n) :
    if bt (mJ C (s + 1) 1) e = b then
      ∃ C1 C', C1 = sJ C (s + 1) (va_up (mJ C (s + 1)) 1 (mJ C (s + 1) 1 ^^^ bE e)) ∧ C' = rClr C1 (s + 7) ∧ cl 40 [.ref s, .int (nI e), .int (if b = true then 1 else 0)] C = some (some (.int (nI (cnt (bt (orpB (mJ C (s + 1 + 5)) n (mJ C (s + 1) 1 ^^^ bE e))) 64))), C') ∧ ∃ w', SR C' s w' n 0
    else cl 40 [.ref s, .int (nI e), .int (if b = true then 1 else 0)] C = some (some (.int (-5)), C) := by
  obtain ⟨k1, k2, k3, k4, k5⟩ := id hC
  have hL := hS.1
  have n40 := hL.2.1
  have hl := c_lhas k4 (M := C)
  rw [hL.1] at hl
  have one0 : ((1 : Int32) = 0) = False := by decide
  have z01 : ((0 : Int32) = 1) = False := by decide
  have i1 := ent_in (n := n) (by omega) he
  have ho := c_holds (mJ C (s + 1) 1) (k := e) (by omega) C
  by_cases q2 : bt (mJ C (s + 1) 1) e = b
  · rw [if_pos q2]
    obtain ⟨C1, hC1⟩ : ∃ C1, C1 = sJ C (s + 1) (va_up (mJ C (s + 1)) 1 (mJ C (s + 1) 1 ^^^ bE e)) := ⟨_, rfl⟩
    have f1 : Fr C C1 (s + 1) (s + 2) := by rw [hC1]; exact Fr.sJ _ (by omega) (by omega)
    have hcl := c_rClear (M := C1) (r := s + 7) (k5.st f1.1)
    have f2 := (Fr_rClr C1 (s + 7)).mono (lo' := s + 1) (hi' := s + 13) (by omega) (by omega)
    have f12 := (f1.mono (lo' := s + 1) (hi' := s + 13) (by omega) (by omega)).trans f2
    have hL1 : LR C1 (s + 1) (va_up w (2 + 8 * e + 3) (if b = true then 0 else 1)) n := by
      have := LRel_lost hL.2 he q2
      unfold LR
      rw [hC1]
      simp only [mI_sJ, mJ_sJ, ↓reduceIte, show ¬ s + 1 + 4 = s + 1 by omega, show ¬ s + 1 + 5 = s + 1 by omega, va_up_self]
      exact ⟨hL.1, this⟩
    have hL2 := LR_fr hL1 (Fr_rClr C1 (s + 7)) (by omega)
    have hor := c_orphans (M := rClr C1 (s + 7)) (h := s + 1) (n := n) (k4.st f12.1) hL2.1 n40
    have r5 : mJ (rClr C1 (s + 7)) (s + 1 + 5) = mJ C (s + 1 + 5) := by
      rw [((Fr_rClr C1 (s + 7)).2 (s + 1 + 5) (by omega)).2, hC1, mJ_sJ, if_neg (by omega)]
    have r1 : mJ (rClr C1 (s + 7)) (s + 1) 1 = mJ C (s + 1) 1 ^^^ bE e := by
      rw [((Fr_rClr C1 (s + 7)).2 (s + 1) (by omega)).2, hC1, mJ_sJ, if_pos rfl, va_up_self]
    rw [r5, r1] at hor
    have hRR : RR C1 (s + 7) (va_up w (2 + 8 * e + 3) (if b = true then 0 else 1)) n R ∨ True := Or.inr trivial
    refine ⟨C1, rClr C1 (s + 7), hC1, rfl, ?_, ?_⟩
    · show rn 40 0 [some (.ref s), some (.int (nI e)), some (.int (if b = true then 1 else 0))] [] C = _
      cases b <;> simp only [t40_0, t40_1, t40_4, t40_5, t40_8, t40_11, t40_12, t40_13, t40_14, t40_17, t40_20, t40_21, t40_24, t40_25, t40_28, t40_30, t40_31, t40_32, t40_35, t40_36, t40_39, t40_40, t40_43, t40_44, t40_47, t40_48, t40_51, t40_54, t40_55, t40_58, t40_61, t40_64, k1, k2, k3, k4.1, va_rf_s, hl, ho, cbn_i, cbn_v, i1, q2, one0, c_bit, ↓reduceIte, not_true_eq_false, not_false_eq_true, Bool.false_eq_true] <;> rw [← hC1] <;> simp only [t40_0, t40_1, t40_4, t40_5, t40_8, t40_11, t40_12, t40_13, t40_14, t40_17, t40_20, t40_21, t40_24, t40_25, t40_28, t40_30, t40_31, t40_32, t40_35, t40_36, t40_39, t40_40, t40_43, t40_44, t40_47, t40_48, t40_51, t40_54, t40_55, t40_58, t40_61, t40_64, KK f1.1, PK f1.1, KK f12.1, PK f12.1, k1, k2, k3, k4.1, k5.1, va_rf_s, hcl, hor, c_bitCount, cbn_i, cbn_v, ↓reduceIte]
    · refine ⟨gW (va_up w (2 + 8 * e + 3) (if b = true then 0 else 1)) (fun _ => -6) (fun _ => -6) D0 V0 n 0, ?_, ?_⟩
      · exact LR_fr ⟨hL1.1, LR_keep hL1.2 (gW_k (by decide) (by decide) (fun e he => ⟨by omega, by omega⟩)) (fun e he p hp p4 p5 => gW_k (by omega) (by omega) (fun e' he' => ⟨by omega, by omega⟩))⟩ (Fr_rClr C1 (s + 7)) (by omega)
      · exact RR_clr n40 (gW_1 _ _ _ _ _ _ _) (fun e he => gW_e he n40) (gW_t _ _ _ _ _ _ _)
  · rw [if_neg q2]
    show rn 40 0 [some (.ref s), some (.int (nI e)), some (.int (if b = true then 1 else 0))] [] C = _
    cases b <;> cases hbt : bt (mJ C (s + 1) 1) e <;> rw [hbt] at ho q2 <;> first | (exact absurd rfl q2) | simp only [t40_0, t40_1, t40_4, t40_5, t40_8, t40_11, t40_12, t40_13, t40_14, t40_17, t40_20, t40_21, t40_24, t40_25, t40_28, t40_30, t40_31, t40_32, t40_35, t40_36, t40_39, t40_40, t40_43, t40_44, t40_47, t40_48, t40_51, t40_54, t40_55, t40_58, t40_61, t40_64, k1, k2, k4.1, va_rf_s, hl, ho, cbn_i, i1, one0, z01, ↓reduceIte, not_true_eq_false, not_false_eq_true, Bool.false_eq_true]
theorem k_need {C : SM} {s n R e k : Nat} {w : Nat → Int32} (hC : StAt C s) (hS : SR C s w n R) (he : e < n) (hk : k < n) :
    if k < e then
      ∃ C2 C', C2 = sJ (sJ C (s + 1 + 4) (va_up (mJ C (s + 1 + 4)) e (mJ C (s + 1 + 4) e ||| bE k))) (s + 1 + 5) (leanT (va_up (mJ C (s + 1 + 4)) e (mJ C (s + 1 + 4) e ||| bE k)) (mJ C (s + 1 + 5)) e (n - e)) ∧ C' = rClr C2 (s + 7) ∧ cl 35 [.ref s, .int (nI e), .int (nI k)] C = some (some (.int (nI (cnt (bt (mJ C (s + 1 + 4) e ||| bE k)) 64))), C') ∧ ∃ w', SR C' s w' n 0
    else cl 35 [.ref s, .int (nI e), .int (nI k)] C = some (some (.int (-5)), C) := by
  obtain ⟨k1, k2, k3, k4, k5⟩ := id hC
  have hL := hS.1
  have n40 := hL.2.1
  have hl := c_lhas k4 (M := C)
  rw [hL.1] at hl
  have one0 : ((1 : Int32) = 0) = False := by decide
  have i1 := ent_in (n := n) (by omega) he
  have i2 := ent_in (n := n) (by omega) hk
  have hlt : (nI e ≤ nI k) = (e ≤ k) := i_le (by omega) (by omega)
  have hlt2 : (nI k < nI e) = (k < e) := i_lt (by omega) (by omega)
  by_cases q2 : k < e
  · rw [if_pos q2]
    have q3 : ¬ e ≤ k := by omega
    have ie : inR (nI e) 40 = True := i_inT (by omega) (by decide)
    obtain ⟨C1, hC1⟩ : ∃ C1, C1 = sJ C (s + 1 + 4) (va_up (mJ C (s + 1 + 4)) e (mJ C (s + 1 + 4) e ||| bE k)) := ⟨_, rfl⟩
    have f1 : Fr C C1 (s + 1) (s + 13) := by rw [hC1]; exact Fr.sJ _ (by omega) (by omega)
    have e14 : mJ C1 (s + 1 + 4) = va_up (mJ C (s + 1 + 4)) e (mJ C (s + 1 + 4) e ||| bE k) := by rw [hC1, mJ_sJ, if_pos rfl]
    have e15 : mJ C1 (s + 1 + 5) = mJ C (s + 1 + 5) := by rw [hC1, mJ_sJ, if_neg (by omega)]
    have i1' : mI C1 = mI C := by rw [hC1]; rfl
    have hle := c_lean (M := C1) (h := s + 1) (n := n) (a := e) (k4.st f1.1) (by rw [i1']; exact hL.1) n40 (by omega)
    rw [e14, e15] at hle
    obtain ⟨C2, hC2⟩ : ∃ C2, C2 = sJ C1 (s + 1 + 5) (leanT (va_up (mJ C (s + 1 + 4)) e (mJ C (s + 1 + 4) e ||| bE k)) (mJ C (s + 1 + 5)) e (n - e)) := ⟨_, rfl⟩
    rw [← hC2] at hle
    have f2 : Fr C1 C2 (s + 1) (s + 13) := by rw [hC2]; exact Fr.sJ _ (by omega) (by omega)
    have f12 := f1.trans f2
    have hcl := c_rClear (M := C2) (r := s + 7) (k5.st f12.1)
    have f3 := (Fr_rClr C2 (s + 7)).mono (lo' := s + 1) (hi' := s + 13) (by omega) (by omega)
    have f13 := f12.trans f3
    have j4 : mJ (rClr C2 (s + 7)) (s + 1 + 4) = va_up (mJ C (s + 1 + 4)) e (mJ C (s + 1 + 4) e ||| bE k) := by
      rw [((Fr_rClr C2 (s + 7)).2 (s + 1 + 4) (by omega)).2, hC2, mJ_sJ, if_neg (by omega), e14]
    have hL2 : LR C2 (s + 1) (dpW w e k) n := by
      have := LRel_need hL.2 he q2
      unfold LR
      rw [hC2, hC1]
      simp only [mI_sJ, mJ_sJ, ↓reduceIte, show ¬ s + 1 = s + 1 + 4 by omega, show ¬ s + 1 = s + 1 + 5 by omega, show ¬ s + 1 + 4 = s + 1 + 5 by omega]
      exact ⟨hL.1, this⟩
    refine ⟨C2, rClr C2 (s + 7), by rw [hC2, hC1], rfl, ?_, ?_⟩
    · show rn 35 0 [some (.ref s), some (.int (nI e)), some (.int (nI k))] [] C = _
      simp only [t35_0, t35_1, t35_4, t35_5, t35_8, t35_11, t35_12, t35_15, t35_16, t35_19, t35_22, t35_23, t35_24, t35_25, t35_26, t35_29, t35_31, t35_32, t35_33, t35_36, t35_39, t35_40, t35_41, t35_42, t35_43, t35_46, t35_47, t35_48, t35_49, t35_52, t35_53, t35_56, t35_57, t35_60, t35_63, t35_64, t35_67, t35_70, t35_71, t35_72, t35_75, k1, k2, k3, k4.1, k4.2.2.2.2.1, k4.2.2.2.2.2.2.2.2.2.1, va_rf_s, hl, cbn_i, cbn_v, i1, i2, hlt, hlt2, q2, q3, one0, ie, c_bit, nI_c (show e < 2147483648 by omega), ↓reduceIte, not_false_eq_true, and_self]
      rw [← hC1]
      simp only [t35_0, t35_1, t35_4, t35_5, t35_8, t35_11, t35_12, t35_15, t35_16, t35_19, t35_22, t35_23, t35_24, t35_25, t35_26, t35_29, t35_31, t35_32, t35_33, t35_36, t35_39, t35_40, t35_41, t35_42, t35_43, t35_46, t35_47, t35_48, t35_49, t35_52, t35_53, t35_56, t35_57, t35_60, t35_63, t35_64, t35_67, t35_70, t35_71, t35_72, t35_75, KK f1.1, PK f1.1, KK f12.1, PK f12.1, KK f13.1, PK f13.1, k1, k2, k3, k4.1, k4.2.2.2.2.1, k4.2.2.2.2.2.2.2.2.2.1, k5.1, va_rf_s, hle, hcl, cbn_i, cbn_v, ie, nI_c (show e < 2147483648 by omega), ↓reduceIte, and_self, j4, va_up_self, c_bitCount]
    · refine ⟨gW (dpW w e k) (fun _ => -6) (fun _ => -6) D0 V0 n 0, ?_, ?_⟩
      · exact LR_fr ⟨hL2.1, LR_keep hL2.2 (gW_k (by decide) (by decide) (fun e he => ⟨by omega, by omega⟩)) (fun e he p hp p4 p5 => gW_k (by omega) (by omega) (fun e' he' => ⟨by omega, by omega⟩))⟩ (Fr_rClr C2 (s + 7)) (by omega)
      · exact RR_clr n40 (gW_1 _ _ _ _ _ _ _) (fun e he => gW_e he n40) (gW_t _ _ _ _ _ _ _)
  · rw [if_neg q2]
    have q3 : e ≤ k := by omega
    show rn 35 0 [some (.ref s), some (.int (nI e)), some (.int (nI k))] [] C = _
    simp only [t35_0, t35_1, t35_4, t35_5, t35_8, t35_11, t35_12, t35_15, t35_16, t35_19, t35_22, t35_23, t35_24, t35_25, t35_26, t35_29, t35_31, t35_32, t35_33, t35_36, t35_39, t35_40, t35_41, t35_42, t35_43, t35_46, t35_47, t35_48, t35_49, t35_52, t35_53, t35_56, t35_57, t35_60, t35_63, t35_64, t35_67, t35_70, t35_71, t35_72, t35_75, k1, k2, k4.1, va_rf_s, hl, cbn_i, i1, i2, hlt, hlt2, q2, q3, one0, ↓reduceIte, not_false_eq_true, not_true_eq_false]
