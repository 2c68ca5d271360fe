/-! worst -/
def wst (lost : Int64) (c : Nat → Nat) : Nat → Int32 × Int32
  | 0 => (-6, -6)
  | k + 1 => if bt lost k = true then wst lost c k else if (wst lost c k).2 < nI (c k) then (nI k, nI (c k)) else wst lost c k
theorem wst_or {lost : Int64} {c : Nat → Nat} (hc : ∀ k, c k ≤ 64) : ∀ k, k ≤ 64 → wst lost c k = (-6, -6) ∨ ∃ j d, j < 64 ∧ d ≤ 64 ∧ wst lost c k = (nI j, nI d) := by
  intro k
  induction k with
  | zero => intro _; exact Or.inl rfl
  | succ k ih =>
    intro hk
    have ih := ih (by omega)
    unfold wst
    split
    · exact ih
    · split
      · exact Or.inr ⟨k, c k, by omega, hc k, rfl⟩
      · exact ih
theorem flM_2 (M : SM) (m n : Nat) : flM (flM M m n) m n = flM M m n := by
  have e : leanT (rNd (mI M (m + 1))) (leanT (rNd (mI M (m + 1))) (mJ M (m + 7)) 0 n) 0 n = leanT (rNd (mI M (m + 1))) (mJ M (m + 7)) 0 n := by
    funext x
    by_cases q : x < n
    · exact lean_one (n := n) (fun e he => leanT_lo n e he) (fun e he => leanT_lo n e he) x q
    · rw [leanT_out n x (by omega)]
  unfold flM
  rw [mI_sJ, mJ_sJ, if_pos rfl, e, sJ_sJ]
theorem c_mWorst {C M : SM} {h m n : Nat} {x : Int32} (hm : ModAt M m) (hL : LR C h (mI M (m + 1)) n) (hx : x = 0 ∨ x = 1) {c : Nat → Nat} (hc : ∀ k, k < n → c k = cnt (bt (orpB (mJ C (h + 5)) n (mJ C h 1 ||| bE k))) 64) (hc64 : ∀ k, c k ≤ 64) :
    ∃ N, (N = M ∨ N = flM M m n) ∧ cl 159 [.ref m, .int x] M = some (some (.int (if x = 0 then (wst (mJ C h 1) c n).1 else (wst (mJ C h 1) c n).2)), N) := by
  show ∃ N, _ ∧ rn 159 0 [some (.ref m), some (.int x), none, none, none, none, none, none] [] M = _
  have n40 := hL.2.1
  have hn : mI M (m + 1) 0 = nI n := hL.2.2.1
  have hw : c_within x 0 1 M = c_within x 0 1 M := rfl
  have hxw : (x < 0 ∨ 1 < x) = False := by
    rcases hx with rfl | rfl
    · exact eq_false (by decide)
    · exact eq_false (by decide)
  have one0 : ((1 : Int32) = 0) = False := by decide
  have z01 : ((0 : Int32) = 1) = False := by decide
  have hin : inR 0 370 = True := eq_true (by decide)
  have z0 : (0 : Int32).toNatClampNeg = 0 := by decide
  have h129 := c_lostOnes hm hL
  generalize hlost : mJ C h 1 = lost at *
  have hR : ∀ k, k ≤ n → ∀ l7, ∀ N, (N = M ∨ N = flM M m n) → ∃ N', (N' = M ∨ N' = flM M m n) ∧ rn 159 27 [some (.ref m), some (.int x), some (.long lost), none, some (.int (wst lost c k).1), some (.int (if (wst lost c k).1 = -6 then -1 else (wst lost c k).2)), some (.int (nI k)), l7] [] N = some (some (.int (if x = 0 then (wst lost c n).1 else (wst lost c n).2)), N') := by
    have eN : ∀ N, (N = M ∨ N = flM M m n) → N.2.2 = M.2.2 ∧ mI N (m + 1) = mI M (m + 1) ∧ flM N m n = flM M m n := by
      intro N hN
      rcases hN with rfl | rfl
      · exact ⟨rfl, rfl, rfl⟩
      · exact ⟨rfl, rfl, flM_2 _ _ _⟩
    refine loopB ?_ ?_
    · intro l7 N hN
      obtain ⟨e1, e2, e3⟩ := eN N hN
      refine ⟨N, hN, ?_⟩
      have hn' : mI N (m + 1) 0 = nI n := by rw [e2]; exact hn
      rw [t159_27]
      rcases wst_or (lost := lost) hc64 n (by omega) with hs | ⟨j, d, hj, hd, hs⟩
      · rcases hx with hx | hx <;> simp only [t159_0, t159_1, t159_2, t159_3, t159_6, t159_9, t159_11, t159_12, t159_13, t159_16, t159_17, t159_19, t159_21, t159_22, t159_24, t159_25, t159_29, t159_30, t159_33, t159_34, t159_35, t159_38, t159_39, t159_41, t159_42, t159_45, t159_46, t159_49, t159_50, t159_53, t159_54, t159_55, t159_56, t159_58, t159_59, t159_60, t159_63, t159_66, t159_68, t159_70, t159_72, t159_75, t159_77, t159_80, t159_82, t159_84, t159_86, t159_88, t159_91, t159_93, t159_96, t159_98, t159_100, t159_103, t159_106, t159_108, t159_110, t159_113, t159_114, t159_117, t159_119, t159_122, t159_124, KK e1, PK e1, hm.1, hm.2.1, hm.2.2.2.2.2.2.2.2.2.2.1, va_rf_s, true_or, hin, and_self, z0, hn', leN n (show n < 2147483648 by omega) (show n < 2147483648 by omega), Nat.le_refl, hs, hx, one0, ↓reduceIte]
      · have h6 : (nI j = -6) = False := eq_false ((by decide +kernel : ∀ j, j < 64 → ¬ nI j = -6) j hj)
        rcases hx with hx | hx <;> simp only [t159_0, t159_1, t159_2, t159_3, t159_6, t159_9, t159_11, t159_12, t159_13, t159_16, t159_17, t159_19, t159_21, t159_22, t159_24, t159_25, t159_29, t159_30, t159_33, t159_34, t159_35, t159_38, t159_39, t159_41, t159_42, t159_45, t159_46, t159_49, t159_50, t159_53, t159_54, t159_55, t159_56, t159_58, t159_59, t159_60, t159_63, t159_66, t159_68, t159_70, t159_72, t159_75, t159_77, t159_80, t159_82, t159_84, t159_86, t159_88, t159_91, t159_93, t159_96, t159_98, t159_100, t159_103, t159_106, t159_108, t159_110, t159_113, t159_114, t159_117, t159_119, t159_122, t159_124, KK e1, PK e1, hm.1, hm.2.1, hm.2.2.2.2.2.2.2.2.2.2.1, va_rf_s, true_or, hin, and_self, z0, hn', leN n (show n < 2147483648 by omega) (show n < 2147483648 by omega), Nat.le_refl, hs, h6, hx, one0, ↓reduceIte, not_true_eq_false, not_false_eq_true]
    · intro k hk ih l7 N hN
      obtain ⟨e1, e2, e3⟩ := eN N hN
      have hn' : mI N (m + 1) 0 = nI n := by rw [e2]; exact hn
      have hle : ¬ n ≤ k := by omega
      have hmN := hm.st e1
      have hp := c_part hmN (show k < 40 by omega) (show 3 < 8 by decide)
      rw [e2, hL.2.2.2.2.2.1 k hk, hlost, show nI 3 = 3 from rfl] at hp
      have ho := c_orphansRel (C := C) (h := h) (n := n) hmN (by rw [e2]; exact hL) (lost ||| bE k)
      rw [e3] at ho
      have hcnt : cnt (bt (orpB (mJ C (h + 5)) n (lost ||| bE k))) 40 = c k := by
        rw [hc k hk, cnt_40 n40 (fun k => orpB_b n40)]
      have hcl : nI (c k) < nI 65 := by
        rw [i_lt (by have := hc64 k; omega) (by decide)]
        have := hc64 k
        omega
      have hcp : ¬ nI (c k) < 0 := nI_pos (by have := hc64 k; omega)
      cases hb : bt lost k with
      | true =>
        rw [hb] at hp
        obtain ⟨N', hN', ih⟩ := ih (some (.int (-1))) N hN
        refine ⟨N', hN', ?_⟩
        have hwk : wst lost c (k + 1) = wst lost c k := by
          rw [show wst lost c (k + 1) = if bt lost k = true then wst lost c k else if (wst lost c k).2 < nI (c k) then (nI k, nI (c k)) else wst lost c k from rfl, if_pos hb]
        rw [hwk] at ih
        have hle1 : ((-1 : Int32) ≤ if (wst lost c k).1 = -6 then -1 else (wst lost c k).2) = True := by
          refine eq_true ?_
          rcases wst_or (lost := lost) hc64 k (by omega) with hs | ⟨j, d, hj, hd, hs⟩
          · rw [hs]; decide
          · rw [hs]
            have h6 : ¬ nI j = -6 := (by decide +kernel : ∀ j, j < 64 → ¬ nI j = -6) j hj
            rw [if_neg h6]
            exact (by decide +kernel : ∀ d, d < 65 → (-1 : Int32) ≤ nI d) d (by omega)
        rw [t159_27]
        simp only [t159_0, t159_1, t159_2, t159_3, t159_6, t159_9, t159_11, t159_12, t159_13, t159_16, t159_17, t159_19, t159_21, t159_22, t159_24, t159_25, t159_29, t159_30, t159_33, t159_34, t159_35, t159_38, t159_39, t159_41, t159_42, t159_45, t159_46, t159_49, t159_50, t159_53, t159_54, t159_55, t159_56, t159_58, t159_59, t159_60, t159_63, t159_66, t159_68, t159_70, t159_72, t159_75, t159_77, t159_80, t159_82, t159_84, t159_86, t159_88, t159_91, t159_93, t159_96, t159_98, t159_100, t159_103, t159_106, t159_108, t159_110, t159_113, t159_114, t159_117, t159_119, t159_122, t159_124, KK e1, PK e1, hm.1, hm.2.1, hm.2.2.2.2.2.2.2.2.2.2.1, va_rf_s, true_or, hin, and_self, z0, hn', leN n (show n < 2147483648 by omega) (show k < 2147483648 by omega), hle, hp, cbn_i, hle1, ↓reduceIte, not_true_eq_false, n1]
        exact ih
      | false =>
        rw [hb] at hp
        obtain ⟨N', hN', ih⟩ := ih (some (.int (nI (c k)))) (flM M m n) (Or.inr rfl)
        refine ⟨N', hN', ?_⟩
        have hwk : wst lost c (k + 1) = if (wst lost c k).2 < nI (c k) then (nI k, nI (c k)) else wst lost c k := by
          rw [show wst lost c (k + 1) = if bt lost k = true then wst lost c k else if (wst lost c k).2 < nI (c k) then (nI k, nI (c k)) else wst lost c k from rfl, if_neg (by rw [hb]; decide)]
        rw [hwk] at ih
        have k6 : (nI k = -6) = False := eq_false ((by decide +kernel : ∀ j, j < 64 → ¬ nI j = -6) k (by omega))
        have hge : ∀ y : Int32, (nI (c k) ≤ y) = ¬ y < nI (c k) := fun y => propext Int32.not_lt.symm
        rw [t159_27]
        rcases wst_or (lost := lost) hc64 k (by omega) with hs | ⟨j, d, hj, hd, hs⟩
        · rw [hs] at ih ⊢
          have c1 : ((-6 : Int32) < nI (c k)) = True := eq_true ((by decide +kernel : ∀ d, d < 65 → (-6 : Int32) < nI d) (c k) (by have := hc64 k; omega))
          have c2 : ((-1 : Int32) < nI (c k)) = True := eq_true ((by decide +kernel : ∀ d, d < 65 → (-1 : Int32) < nI d) (c k) (by have := hc64 k; omega))
          simp only [c1, k6, ↓reduceIte] at ih
          simp only [t159_0, t159_1, t159_2, t159_3, t159_6, t159_9, t159_11, t159_12, t159_13, t159_16, t159_17, t159_19, t159_21, t159_22, t159_24, t159_25, t159_29, t159_30, t159_33, t159_34, t159_35, t159_38, t159_39, t159_41, t159_42, t159_45, t159_46, t159_49, t159_50, t159_53, t159_54, t159_55, t159_56, t159_58, t159_59, t159_60, t159_63, t159_66, t159_68, t159_70, t159_72, t159_75, t159_77, t159_80, t159_82, t159_84, t159_86, t159_88, t159_91, t159_93, t159_96, t159_98, t159_100, t159_103, t159_106, t159_108, t159_110, t159_113, t159_114, t159_117, t159_119, t159_122, t159_124, KK e1, PK e1, hm.1, hm.2.1, hm.2.2.2.2.2.2.2.2.2.2.1, va_rf_s, true_or, hin, and_self, z0, hn', leN n (show n < 2147483648 by omega) (show k < 2147483648 by omega), hle, hp, cbn_i, z01, ↓reduceIte, not_true_eq_false, not_false_eq_true, n1, ho, c_bits, hcnt, hge, c2, Bool.false_eq_true]
          exact ih
        · rw [hs] at ih ⊢
          have h6 : (nI j = -6) = False := eq_false ((by decide +kernel : ∀ j, j < 64 → ¬ nI j = -6) j hj)
          by_cases q : nI d < nI (c k)
          · simp only [q, k6, ↓reduceIte] at ih
            simp only [t159_0, t159_1, t159_2, t159_3, t159_6, t159_9, t159_11, t159_12, t159_13, t159_16, t159_17, t159_19, t159_21, t159_22, t159_24, t159_25, t159_29, t159_30, t159_33, t159_34, t159_35, t159_38, t159_39, t159_41, t159_42, t159_45, t159_46, t159_49, t159_50, t159_53, t159_54, t159_55, t159_56, t159_58, t159_59, t159_60, t159_63, t159_66, t159_68, t159_70, t159_72, t159_75, t159_77, t159_80, t159_82, t159_84, t159_86, t159_88, t159_91, t159_93, t159_96, t159_98, t159_100, t159_103, t159_106, t159_108, t159_110, t159_113, t159_114, t159_117, t159_119, t159_122, t159_124, KK e1, PK e1, hm.1, hm.2.1, hm.2.2.2.2.2.2.2.2.2.2.1, va_rf_s, true_or, hin, and_self, z0, hn', leN n (show n < 2147483648 by omega) (show k < 2147483648 by omega), hle, hp, cbn_i, z01, h6, ↓reduceIte, not_true_eq_false, not_false_eq_true, n1, ho, c_bits, hcnt, hge, q, Bool.false_eq_true]
            exact ih
          · simp only [q, h6, ↓reduceIte] at ih
            simp only [t159_0, t159_1, t159_2, t159_3, t159_6, t159_9, t159_11, t159_12, t159_13, t159_16, t159_17, t159_19, t159_21, t159_22, t159_24, t159_25, t159_29, t159_30, t159_33, t159_34, t159_35, t159_38, t159_39, t159_41, t159_42, t159_45, t159_46, t159_49, t159_50, t159_53, t159_54, t159_55, t159_56, t159_58, t159_59, t159_60, t159_63, t159_66, t159_68, t159_70, t159_72, t159_75, t159_77, t159_80, t159_82, t159_84, t159_86, t159_88, t159_91, t159_93, t159_96, t159_98, t159_100, t159_103, t159_106, t159_108, t159_110, t159_113, t159_114, t159_117, t159_119, t159_122, t159_124, KK e1, PK e1, hm.1, hm.2.1, hm.2.2.2.2.2.2.2.2.2.2.1, va_rf_s, true_or, hin, and_self, z0, hn', leN n (show n < 2147483648 by omega) (show k < 2147483648 by omega), hle, hp, cbn_i, z01, h6, ↓reduceIte, not_true_eq_false, not_false_eq_true, n1, ho, c_bits, hcnt, hge, q, Bool.false_eq_true]
            exact ih
  obtain ⟨N, hN, hr⟩ := hR 0 (Nat.zero_le _) none M (Or.inl rfl)
  refine ⟨N, hN, ?_⟩
  simp only [t159_0, t159_1, t159_2, t159_3, t159_6, t159_9, t159_11, t159_12, t159_13, t159_16, t159_17, t159_19, t159_21, t159_22, t159_24, t159_25, t159_29, t159_30, t159_33, t159_34, t159_35, t159_38, t159_39, t159_41, t159_42, t159_45, t159_46, t159_49, t159_50, t159_53, t159_54, t159_55, t159_56, t159_58, t159_59, t159_60, t159_63, t159_66, t159_68, t159_70, t159_72, t159_75, t159_77, t159_80, t159_82, t159_84, t159_86, t159_88, t159_91, t159_93, t159_96, t159_98, t159_100, t159_103, t159_106, t159_108, t159_110, t159_113, t159_114, t159_117, t159_119, t159_122, t159_124, c_within, hxw, cbn_i, one0, hm.1, h129, ↓reduceIte, not_false_eq_true]
  exact hr
theorem p_worst {M : SM} {S sb L B : Nat} {xs : Nat → Int32} (h : Rel M S sb L xs B) (x : Int32) : PairI 71 159 [.int x] M S sb L xs B := by
  obtain ⟨⟨K0, P0, P1, P2, P3, P4, P5, P6⟩, SN, ⟨KH, PH, KR, RG⟩, ⟨KL, SL⟩, ⟨KP, PP, KC⟩, ⟨KD, PD⟩, TQ, TW, MM, ⟨LO1, LO2, LO3, LO4⟩⟩ := id h.1.1
  obtain ⟨hX, n, R, hR, hN⟩ := id h
  have n40 := hN.1.2.1
  obtain ⟨q1, q2, q3, q4, q5⟩ := SN
  have hsz := hN.1.1
  have hLm : LR M (S + 1 + 1) (mI M (S + 148 + 1)) n := hN.1
  have one0 : ((1 : Int32) = 0) = False := by decide
  by_cases q : x < 0 ∨ 1 < x
  · have x0 : (x = 0) = False := eq_false (fun z => by subst z; exact absurd q (by decide))
    have x1 : (x = 1) = False := eq_false (fun z => by subst z; exact absurd q (by decide))
    refine ⟨-2, M, M, Low.refl _ _, ?_, ?_, h⟩
    · show rn 71 0 [some (.ref S), some (.int x), none, none, none, none] [] M = _
      simp only [t71_0, t71_1, t71_4, t71_5, t71_6, t71_9, t71_11, t71_12, t71_14, t71_15, t71_17, t71_18, t71_19, t71_23, t71_24, t71_27, t71_30, t71_33, t71_36, t71_37, t71_40, t71_43, t71_46, t71_48, t71_51, t71_54, t71_55, t71_58, t71_61, t71_62, t71_65, t71_68, t71_71, t71_73, t71_76, t71_77, t71_80, t71_83, t71_85, t71_87, t71_88, t71_91, t71_93, t71_94, t71_96, t71_97, t71_100, t71_103, t71_104, t71_107, t71_108, t71_111, t71_112, x0, x1, ↓reduceIte]
    · show rn 159 0 [some (.ref (S + 148)), some (.int x), none, none, none, none, none, none] [] M = _
      simp only [t159_0, t159_1, t159_2, t159_3, t159_6, t159_9, t159_11, t159_12, t159_13, t159_16, t159_17, t159_19, t159_21, t159_22, t159_24, t159_25, t159_29, t159_30, t159_33, t159_34, t159_35, t159_38, t159_39, t159_41, t159_42, t159_45, t159_46, t159_49, t159_50, t159_53, t159_54, t159_55, t159_56, t159_58, t159_59, t159_60, t159_63, t159_66, t159_68, t159_70, t159_72, t159_75, t159_77, t159_80, t159_82, t159_84, t159_86, t159_88, t159_91, t159_93, t159_96, t159_98, t159_100, t159_103, t159_106, t159_108, t159_110, t159_113, t159_114, t159_117, t159_119, t159_122, t159_124, c_within, q, cbn_i, ↓reduceIte, not_true_eq_false]
  · have hx : x = 0 ∨ x = 1 := by
      obtain ⟨i, hi, rfl⟩ := slot_of q
      match i, hi with
      | 0, _ => exact Or.inl rfl
      | 1, _ => exact Or.inr rfl
    have hc64 : ∀ k, cnt (bt (orpB (mJ M (S + 1 + 1 + 5)) n (mJ M (S + 1 + 1) 1 ||| bE k))) 64 ≤ 64 := fun k => cnt_le _ _
    obtain ⟨N, hN', hr⟩ := c_mWorst (C := M) (h := S + 1 + 1) MM hLm hx (c := fun k => cnt (bt (orpB (mJ M (S + 1 + 1 + 5)) n (mJ M (S + 1 + 1) 1 ||| bE k))) 64) (fun _ _ => rfl) hc64
    refine ⟨_, M, N, Low.refl _ _, ?_, hr, ?_⟩
    · show rn 71 0 [some (.ref S), some (.int x), none, none, none, none] [] M = _
      generalize hcc : (fun k => cnt (bt (orpB (mJ M (S + 1 + 1 + 5)) n (mJ M (S + 1 + 1) 1 ||| bE k))) 64) = c
      have hck : ∀ k, cnt (bt (orpB (mJ M (S + 1 + 1 + 5)) n (mJ M (S + 1 + 1) 1 ||| bE k))) 64 = c k := fun k => by rw [← hcc]
      have hc64' : ∀ k, c k ≤ 64 := fun k => by rw [← hck]; exact hc64 k
      have lp : ∀ k, k ≤ n → ∀ l5, rn 71 21 [some (.ref S), some (.int x), some (.int (wst (mJ M (S + 1 + 1) 1) c k).1), some (.int (wst (mJ M (S + 1 + 1) 1) c k).2), some (.int (nI k)), l5] [] M = some (some (.int (if x = 0 then (wst (mJ M (S + 1 + 1) 1) c n).1 else (wst (mJ M (S + 1 + 1) 1) c n).2)), M) := by
        refine loopB ?_ ?_
        · intro l5
          rw [t71_21]
          rcases hx with hx | hx <;> simp only [t71_0, t71_1, t71_4, t71_5, t71_6, t71_9, t71_11, t71_12, t71_14, t71_15, t71_17, t71_18, t71_19, t71_23, t71_24, t71_27, t71_30, t71_33, t71_36, t71_37, t71_40, t71_43, t71_46, t71_48, t71_51, t71_54, t71_55, t71_58, t71_61, t71_62, t71_65, t71_68, t71_71, t71_73, t71_76, t71_77, t71_80, t71_83, t71_85, t71_87, t71_88, t71_91, t71_93, t71_94, t71_96, t71_97, t71_100, t71_103, t71_104, t71_107, t71_108, t71_111, t71_112, K0, P0, q1, q2, q4.1, va_rf_s, hsz, leN n (show n < 2147483648 by omega) (show n < 2147483648 by omega), Nat.le_refl, hx, one0, ↓reduceIte, not_true_eq_false, not_false_eq_true]
        · intro k hk ih l5
          rw [t71_21]
          have hle : ¬ n ≤ k := by omega
          have ho := c_holds (mJ M (S + 1 + 1) 1) (show k < 64 by omega) M
          have hor := c_orphansOf q4 hsz n40 (mJ M (S + 1 + 1) 1 ||| bE k)
          have hge : ∀ y : Int32, (nI (c k) ≤ y) = ¬ y < nI (c k) := fun y => propext Int32.not_lt.symm
          have hwk : wst (mJ M (S + 1 + 1) 1) c (k + 1) = if bt (mJ M (S + 1 + 1) 1) k = true then wst (mJ M (S + 1 + 1) 1) c k else if (wst (mJ M (S + 1 + 1) 1) c k).2 < nI (c k) then (nI k, nI (c k)) else wst (mJ M (S + 1 + 1) 1) c k := rfl
          cases hb : bt (mJ M (S + 1 + 1) 1) k with
          | true =>
            rw [hb] at ho
            rw [hwk, if_pos hb] at ih
            simp only [t71_0, t71_1, t71_4, t71_5, t71_6, t71_9, t71_11, t71_12, t71_14, t71_15, t71_17, t71_18, t71_19, t71_23, t71_24, t71_27, t71_30, t71_33, t71_36, t71_37, t71_40, t71_43, t71_46, t71_48, t71_51, t71_54, t71_55, t71_58, t71_61, t71_62, t71_65, t71_68, t71_71, t71_73, t71_76, t71_77, t71_80, t71_83, t71_85, t71_87, t71_88, t71_91, t71_93, t71_94, t71_96, t71_97, t71_100, t71_103, t71_104, t71_107, t71_108, t71_111, t71_112, K0, P0, q1, q2, q4.1, va_rf_s, hsz, leN n (show n < 2147483648 by omega) (show k < 2147483648 by omega), hle, ho, cbn_i, one0, ↓reduceIte, not_true_eq_false, not_false_eq_true, n1]
            exact ih _
          | false =>
            rw [hb] at ho
            rw [hwk, if_neg (by rw [hb]; decide)] at ih
            by_cases hq : (wst (mJ M (S + 1 + 1) 1) c k).2 < nI (c k)
            · rw [if_pos hq] at ih
              simp only [t71_0, t71_1, t71_4, t71_5, t71_6, t71_9, t71_11, t71_12, t71_14, t71_15, t71_17, t71_18, t71_19, t71_23, t71_24, t71_27, t71_30, t71_33, t71_36, t71_37, t71_40, t71_43, t71_46, t71_48, t71_51, t71_54, t71_55, t71_58, t71_61, t71_62, t71_65, t71_68, t71_71, t71_73, t71_76, t71_77, t71_80, t71_83, t71_85, t71_87, t71_88, t71_91, t71_93, t71_94, t71_96, t71_97, t71_100, t71_103, t71_104, t71_107, t71_108, t71_111, t71_112, K0, P0, q1, q2, q4.1, va_rf_s, hsz, leN n (show n < 2147483648 by omega) (show k < 2147483648 by omega), hle, ho, hor, c_bit, c_bitCount, hck, hge, hq, cbn_i, one0, ↓reduceIte, not_true_eq_false, not_false_eq_true, Bool.false_eq_true, n1]
              exact ih _
            · rw [if_neg hq] at ih
              simp only [t71_0, t71_1, t71_4, t71_5, t71_6, t71_9, t71_11, t71_12, t71_14, t71_15, t71_17, t71_18, t71_19, t71_23, t71_24, t71_27, t71_30, t71_33, t71_36, t71_37, t71_40, t71_43, t71_46, t71_48, t71_51, t71_54, t71_55, t71_58, t71_61, t71_62, t71_65, t71_68, t71_71, t71_73, t71_76, t71_77, t71_80, t71_83, t71_85, t71_87, t71_88, t71_91, t71_93, t71_94, t71_96, t71_97, t71_100, t71_103, t71_104, t71_107, t71_108, t71_111, t71_112, K0, P0, q1, q2, q4.1, va_rf_s, hsz, leN n (show n < 2147483648 by omega) (show k < 2147483648 by omega), hle, ho, hor, c_bit, c_bitCount, hck, hge, hq, cbn_i, one0, ↓reduceIte, not_true_eq_false, not_false_eq_true, Bool.false_eq_true, n1]
              exact ih _
      have l0 := lp 0 (Nat.zero_le _) none
      rcases hx with hx | hx <;> simp only [t71_0, t71_1, t71_4, t71_5, t71_6, t71_9, t71_11, t71_12, t71_14, t71_15, t71_17, t71_18, t71_19, t71_23, t71_24, t71_27, t71_30, t71_33, t71_36, t71_37, t71_40, t71_43, t71_46, t71_48, t71_51, t71_54, t71_55, t71_58, t71_61, t71_62, t71_65, t71_68, t71_71, t71_73, t71_76, t71_77, t71_80, t71_83, t71_85, t71_87, t71_88, t71_91, t71_93, t71_94, t71_96, t71_97, t71_100, t71_103, t71_104, t71_107, t71_108, t71_111, t71_112, hx, one0, ↓reduceIte] at l0 ⊢ <;> exact l0
    · rcases hN' with rfl | rfl
      · exact h
      · exact h.flM n
