/-! depth -/
def dgo (o : Nat → Int32) (d : Nat → Nat) (k : Nat) : Nat → Int32 := fun x => if x < k then nI (d x) else o x
theorem dgo_0 (o : Nat → Int32) (d : Nat → Nat) : dgo o d 0 = o := by funext x; simp [dgo]
theorem dgo_up (o : Nat → Int32) (d : Nat → Nat) (k : Nat) : va_up (dgo o d k) k (nI (d k)) = dgo o d (k + 1) := by
  funext x
  unfold va_up dgo
  by_cases h : x = k
  · subst h; simp
  · by_cases h2 : x < k
    · simp [h, h2, show x < k + 1 by omega]
    · simp [h, h2, show ¬ x < k + 1 by omega]
theorem live_or {ln : Nat → Int64} {lost : Int64} {n e : Nat} (h40 : n ≤ 40) (he : e < n) : (bt (lost ||| orpB ln n lost) e = true) = ¬ live ln lost e := by
  unfold orpB live
  rw [bt_or, bt_and, bt_mk _ _ _ (by omega), bt_not _ (by omega)]
  cases q : bt lost e <;> by_cases z : ln e &&& lost = 0 <;> simp [he, z]
theorem c_mDepth {C M : SM} {h m n e : Nat} (hm : ModAt M m) (hL : LR C h (mI M (m + 1)) n) (he : e < n) : ∃ (N : SM) (v : Int32), cl 157 [.ref m, .int (nI e)] M = some (some (.int v), N) ∧ N.2.2 = M.2.2 ∧ (∀ b, b ≠ m + 7 → b ≠ m + 8 → Same M N b) ∧ (live (mJ C (h + 5)) (mJ C h 1) e → v = nI (depT (mJ C (h + 4)) n e)) ∧ (¬ live (mJ C (h + 5)) (mJ C h 1) e → v = -6) := by
  have n40 := hL.2.1
  have hn : mI M (m + 1) 0 = nI n := hL.2.2.1
  have hi := c_mEntry hm hn n40 (nI e)
  have hii := ent_in (n := n) (by omega) he
  have h129 := c_lostOnes hm hL
  have h130 := c_orphansRel hm hL (mJ C h 1)
  have one0 : ((1 : Int32) = 0) = False := by decide
  have hbr := bt_read (x := mJ C h 1 ||| orpB (mJ C (h + 5)) n (mJ C h 1)) (k := e) (by omega)
  have hlv := live_or (ln := mJ C (h + 5)) (lost := mJ C h 1) n40 he
  have e0 : (flM M m n).2.2 = M.2.2 := rfl
  by_cases q : live (mJ C (h + 5)) (mJ C h 1) e
  · have hbf : bt (mJ C h 1 ||| orpB (mJ C (h + 5)) n (mJ C h 1)) e = false := by
      cases z : bt (mJ C h 1 ||| orpB (mJ C (h + 5)) n (mJ C h 1)) e with
      | false => rfl
      | true =>
        rw [z] at hlv
        exact absurd q (hlv.mp rfl)
    rw [hbf] at hbr
    generalize hd : depT (mJ C (h + 4)) n = d
    have hdk : ∀ k, k < n → d k = dpI (mJ C (h + 4) k) d k := fun k hk => by rw [← hd]; exact depT_at _ n k hk
    have hd40 : ∀ k, k < n → d k ≤ k := fun k hk => by rw [← hd]; exact depT_le _ n k hk
    obtain ⟨N0, hN0⟩ : ∃ N0, N0 = flM M m n := ⟨_, rfl⟩
    rw [← hN0] at h130 e0
    have w0 : mI N0 (m + 1) = mI M (m + 1) := by rw [hN0]; rfl
    have hm0 := hm.st e0
    obtain ⟨h1, h2, h3, h4, h5, h6, h7, h8, h9, h10, k1, k2, k3, k4, k5, k6, k7, k8, k9⟩ := id hm0
    have hdp : ∀ G k, k < n → cl 124 [.ref m, .int (nI k)] (sI N0 (m + 8) G) = some (some (.long (mJ C (h + 4) k)), sI N0 (m + 8) G) := by
      intro G k hk
      have := c_deps (hm0.sI (m + 8) G) (e := k) (by omega)
      rw [mI_sI, if_neg (by omega), w0] at this
      rw [this]
      have := hL.2.2.2.2.2.2.2.1 k hk
      unfold rNd at this
      rw [this]
    have eh : ∀ k, k < n → inR (nI k) 40 = True := fun k hk => i_inT (by omega) (by decide)
    have hR : ∀ i, i ≤ e + 1 → ∀ l5, rn 157 37 [some (.ref m), some (.int (nI e)), some (.long (mJ C h 1)), none, some (.int (nI i)), l5] [] (sI N0 (m + 8) (dgo (mI N0 (m + 8)) d i)) = some (some (.int (nI (d e))), sI N0 (m + 8) (dgo (mI N0 (m + 8)) d (e + 1))) := by
      refine loopB ?_ ?_
      · intro l5
        rw [t157_37]
        have hlt : (nI e < nI (e + 1)) = True := by rw [i_lt (by omega) (by omega)]; exact eq_true (by omega)
        have hde : dgo (mI N0 (m + 8)) d (e + 1) e = nI (d e) := if_pos (by omega)
        simp only [t157_0, t157_1, t157_2, t157_5, t157_8, t157_9, t157_10, t157_11, t157_14, t157_15, t157_16, t157_17, t157_18, t157_21, t157_22, t157_23, t157_24, t157_25, t157_26, t157_27, t157_28, t157_31, t157_33, t157_34, t157_35, t157_39, t157_40, t157_43, t157_44, t157_47, t157_49, t157_50, t157_51, t157_52, t157_56, t157_58, t157_61, t157_62, t157_65, t157_67, t157_68, t157_70, t157_73, t157_75, t157_76, t157_77, t157_78, t157_79, t157_80, t157_83, t157_84, t157_87, t157_89, t157_90, t157_91, t157_94, t157_96, t157_97, t157_100, t157_101, t157_104, t157_106, t157_107, t157_108, t157_109, t157_112, t157_113, t157_116, t157_118, t157_119, t157_120, t157_123, t157_126, t157_129, t157_132, t157_133, t157_136, t157_137, t157_138, hlt, ↓reduceIte, mK_sI, mP_sI, h1, h9, va_rf_s, k8, eh e he, true_or, and_self, nI_c (show e < 2147483648 by omega), mI_sI, hde]
      · intro i hi2 ih l5
        have hlt : (nI e < nI i) = False := by rw [i_lt (by omega) (by omega)]; exact eq_false (by omega)
        have hin := eh i (by omega)
        have hci := nI_c (show i < 2147483648 by omega)
        generalize hg : dgo (mI N0 (m + 8)) d i = g at *
        have hgk : ∀ k, k < i → g k = nI (d k) := fun k hk => by rw [← hg]; exact if_pos hk
        have hup : dgo (mI N0 (m + 8)) d (i + 1) = va_up g i (nI (dpI (mJ C (h + 4) i) d i)) := by
          rw [← hdk i (by omega), ← hg, dgo_up]
        rw [hup] at ih
        have lin : ∀ k, k ≤ i → rn 157 54 [some (.ref m), some (.int (nI e)), some (.long (mJ C h 1)), none, some (.int (nI i)), some (.int (nI k))] [] (sI N0 (m + 8) (va_up g i (nI (dpI (mJ C (h + 4) i) d k)))) = some (some (.int (nI (d e))), sI N0 (m + 8) (dgo (mI N0 (m + 8)) d (e + 1))) := by
          refine loopB ?_ ?_
          · rw [t157_54]
            have := ih (some (.int (nI i)))
            simp only [t157_0, t157_1, t157_2, t157_5, t157_8, t157_9, t157_10, t157_11, t157_14, t157_15, t157_16, t157_17, t157_18, t157_21, t157_22, t157_23, t157_24, t157_25, t157_26, t157_27, t157_28, t157_31, t157_33, t157_34, t157_35, t157_39, t157_40, t157_43, t157_44, t157_47, t157_49, t157_50, t157_51, t157_52, t157_56, t157_58, t157_61, t157_62, t157_65, t157_67, t157_68, t157_70, t157_73, t157_75, t157_76, t157_77, t157_78, t157_79, t157_80, t157_83, t157_84, t157_87, t157_89, t157_90, t157_91, t157_94, t157_96, t157_97, t157_100, t157_101, t157_104, t157_106, t157_107, t157_108, t157_109, t157_112, t157_113, t157_116, t157_118, t157_119, t157_120, t157_123, t157_126, t157_129, t157_132, t157_133, t157_136, t157_137, t157_138, leN i (show i < 2147483648 by omega) (show i < 2147483648 by omega), Nat.le_refl, ↓reduceIte, n1]
            exact this
          · intro k hk ik
            rw [t157_54]
            have hle : ¬ i ≤ k := by omega
            have hik := eh k (by omega)
            have hck := nI_c (show k < 2147483648 by omega)
            have hne : ∀ v, va_up g i v k = nI (d k) := fun v => (va_up_ne _ _ (by omega)).trans (hgk k hk)
            have hvb : dpI (mJ C (h + 4) i) d k ≤ 40 := by
              rcases dpI_ex (x := mJ C (h + 4) i) (g := d) k with z | ⟨j, hj, -, z⟩
              · omega
              · have := hd40 j (by omega)
                omega
            have hdb := hd40 k (by omega)
            have hcmp : (nI (d k) < nI (dpI (mJ C (h + 4) i) d k)) = (d k < dpI (mJ C (h + 4) i) d k) := i_lt (by omega) (by omega)
            have hs : dpI (mJ C (h + 4) i) d (k + 1) = if bt (mJ C (h + 4) i) k = true ∧ dpI (mJ C (h + 4) i) d k ≤ d k then d k + 1 else dpI (mJ C (h + 4) i) d k := rfl
            rw [hs] at ik
            generalize dpI (mJ C (h + 4) i) d k = v at *
            have hdpk := fun G => hdp G i (by omega)
            have z01 : ((0 : Int64) = 1) = False := by decide
            cases hb : bt (mJ C (h + 4) i) k with
            | false =>
              rw [if_neg (by rw [hb]; simp)] at ik
              simp only [t157_0, t157_1, t157_2, t157_5, t157_8, t157_9, t157_10, t157_11, t157_14, t157_15, t157_16, t157_17, t157_18, t157_21, t157_22, t157_23, t157_24, t157_25, t157_26, t157_27, t157_28, t157_31, t157_33, t157_34, t157_35, t157_39, t157_40, t157_43, t157_44, t157_47, t157_49, t157_50, t157_51, t157_52, t157_56, t157_58, t157_61, t157_62, t157_65, t157_67, t157_68, t157_70, t157_73, t157_75, t157_76, t157_77, t157_78, t157_79, t157_80, t157_83, t157_84, t157_87, t157_89, t157_90, t157_91, t157_94, t157_96, t157_97, t157_100, t157_101, t157_104, t157_106, t157_107, t157_108, t157_109, t157_112, t157_113, t157_116, t157_118, t157_119, t157_120, t157_123, t157_126, t157_129, t157_132, t157_133, t157_136, t157_137, t157_138, leN i (show i < 2147483648 by omega) (show k < 2147483648 by omega), hle, ↓reduceIte, mK_sI, mP_sI, h1, h9, va_rf_s, k8, hin, hik, hci, hck, true_or, and_self, hdpk, cbn_i, bt_read (show k < 64 by omega), hb, lg_cmp_eq, z01, Bool.false_eq_true, not_false_eq_true, mI_sI, sI_sI, va_up_self, va_up2, n1]
              exact ik
            | true =>
              by_cases z : d k < v
              · rw [if_neg (by omega)] at ik
                simp only [t157_0, t157_1, t157_2, t157_5, t157_8, t157_9, t157_10, t157_11, t157_14, t157_15, t157_16, t157_17, t157_18, t157_21, t157_22, t157_23, t157_24, t157_25, t157_26, t157_27, t157_28, t157_31, t157_33, t157_34, t157_35, t157_39, t157_40, t157_43, t157_44, t157_47, t157_49, t157_50, t157_51, t157_52, t157_56, t157_58, t157_61, t157_62, t157_65, t157_67, t157_68, t157_70, t157_73, t157_75, t157_76, t157_77, t157_78, t157_79, t157_80, t157_83, t157_84, t157_87, t157_89, t157_90, t157_91, t157_94, t157_96, t157_97, t157_100, t157_101, t157_104, t157_106, t157_107, t157_108, t157_109, t157_112, t157_113, t157_116, t157_118, t157_119, t157_120, t157_123, t157_126, t157_129, t157_132, t157_133, t157_136, t157_137, t157_138, leN i (show i < 2147483648 by omega) (show k < 2147483648 by omega), hle, ↓reduceIte, mK_sI, mP_sI, h1, h9, va_rf_s, k8, hin, hik, hci, hck, true_or, and_self, hdpk, cbn_i, bt_read (show k < 64 by omega), hb, lg_cmp_eq, not_true_eq_false, mI_sI, sI_sI, va_up_self, va_up2, hne, hcmp, z, n1]
                exact ik
              · rw [if_pos ⟨hb, by omega⟩] at ik
                simp only [t157_0, t157_1, t157_2, t157_5, t157_8, t157_9, t157_10, t157_11, t157_14, t157_15, t157_16, t157_17, t157_18, t157_21, t157_22, t157_23, t157_24, t157_25, t157_26, t157_27, t157_28, t157_31, t157_33, t157_34, t157_35, t157_39, t157_40, t157_43, t157_44, t157_47, t157_49, t157_50, t157_51, t157_52, t157_56, t157_58, t157_61, t157_62, t157_65, t157_67, t157_68, t157_70, t157_73, t157_75, t157_76, t157_77, t157_78, t157_79, t157_80, t157_83, t157_84, t157_87, t157_89, t157_90, t157_91, t157_94, t157_96, t157_97, t157_100, t157_101, t157_104, t157_106, t157_107, t157_108, t157_109, t157_112, t157_113, t157_116, t157_118, t157_119, t157_120, t157_123, t157_126, t157_129, t157_132, t157_133, t157_136, t157_137, t157_138, leN i (show i < 2147483648 by omega) (show k < 2147483648 by omega), hle, ↓reduceIte, mK_sI, mP_sI, h1, h9, va_rf_s, k8, hin, hik, hci, hck, true_or, and_self, hdpk, cbn_i, bt_read (show k < 64 by omega), hb, lg_cmp_eq, not_true_eq_false, mI_sI, sI_sI, va_up_self, va_up2, hne, hcmp, z, n1]
                exact ik
        have l0 := lin 0 (Nat.zero_le _)
        rw [show dpI (mJ C (h + 4) i) d 0 = 0 from rfl, show nI 0 = 0 from rfl] at l0
        rw [t157_37]
        simp only [t157_0, t157_1, t157_2, t157_5, t157_8, t157_9, t157_10, t157_11, t157_14, t157_15, t157_16, t157_17, t157_18, t157_21, t157_22, t157_23, t157_24, t157_25, t157_26, t157_27, t157_28, t157_31, t157_33, t157_34, t157_35, t157_39, t157_40, t157_43, t157_44, t157_47, t157_49, t157_50, t157_51, t157_52, t157_56, t157_58, t157_61, t157_62, t157_65, t157_67, t157_68, t157_70, t157_73, t157_75, t157_76, t157_77, t157_78, t157_79, t157_80, t157_83, t157_84, t157_87, t157_89, t157_90, t157_91, t157_94, t157_96, t157_97, t157_100, t157_101, t157_104, t157_106, t157_107, t157_108, t157_109, t157_112, t157_113, t157_116, t157_118, t157_119, t157_120, t157_123, t157_126, t157_129, t157_132, t157_133, t157_136, t157_137, t157_138, hlt, ↓reduceIte, mK_sI, mP_sI, h1, h9, va_rf_s, k8, hin, hci, and_self, mI_sI, sI_sI]
        exact l0
    have h0 := hR 0 (by omega) none
    rw [dgo_0, sI_self] at h0
    refine ⟨sI N0 (m + 8) (dgo (mI N0 (m + 8)) d (e + 1)), nI (d e), ?_, e0, fun b b7 b8 => ?_, fun _ => rfl, fun z => absurd q z⟩
    · show rn 157 0 [some (.ref m), some (.int (nI e)), none, none, none, none] [] M = _
      have z01 : ((0 : Int64) = 1) = False := by decide
      simp only [t157_0, t157_1, t157_2, t157_5, t157_8, t157_9, t157_10, t157_11, t157_14, t157_15, t157_16, t157_17, t157_18, t157_21, t157_22, t157_23, t157_24, t157_25, t157_26, t157_27, t157_28, t157_31, t157_33, t157_34, t157_35, t157_39, t157_40, t157_43, t157_44, t157_47, t157_49, t157_50, t157_51, t157_52, t157_56, t157_58, t157_61, t157_62, t157_65, t157_67, t157_68, t157_70, t157_73, t157_75, t157_76, t157_77, t157_78, t157_79, t157_80, t157_83, t157_84, t157_87, t157_89, t157_90, t157_91, t157_94, t157_96, t157_97, t157_100, t157_101, t157_104, t157_106, t157_107, t157_108, t157_109, t157_112, t157_113, t157_116, t157_118, t157_119, t157_120, t157_123, t157_126, t157_129, t157_132, t157_133, t157_136, t157_137, t157_138, hm.1, hi, hii, h129, h130, hbr, lg_cmp_eq, z01, cbn_i, one0, ↓reduceIte, not_false_eq_true, Bool.false_eq_true]
      exact h0
    · rw [hN0]
      exact ⟨by rw [mI_sI, if_neg b8]; rfl, by rw [mJ_sI]; exact flM_J b7⟩
  · have hbt : bt (mJ C h 1 ||| orpB (mJ C (h + 5)) n (mJ C h 1)) e = true := by rw [hlv]; exact q
    rw [hbt] at hbr
    refine ⟨flM M m n, -6, ?_, rfl, fun b b7 b8 => ⟨rfl, flM_J b7⟩, fun z => absurd z q, fun _ => rfl⟩
    show rn 157 0 [some (.ref m), some (.int (nI e)), none, none, none, none] [] M = _
    simp only [t157_0, t157_1, t157_2, t157_5, t157_8, t157_9, t157_10, t157_11, t157_14, t157_15, t157_16, t157_17, t157_18, t157_21, t157_22, t157_23, t157_24, t157_25, t157_26, t157_27, t157_28, t157_31, t157_33, t157_34, t157_35, t157_39, t157_40, t157_43, t157_44, t157_47, t157_49, t157_50, t157_51, t157_52, t157_56, t157_58, t157_61, t157_62, t157_65, t157_67, t157_68, t157_70, t157_73, t157_75, t157_76, t157_77, t157_78, t157_79, t157_80, t157_83, t157_84, t157_87, t157_89, t157_90, t157_91, t157_94, t157_96, t157_97, t157_100, t157_101, t157_104, t157_106, t157_107, t157_108, t157_109, t157_112, t157_113, t157_116, t157_118, t157_119, t157_120, t157_123, t157_126, t157_129, t157_132, t157_133, t157_136, t157_137, t157_138, hm.1, hi, hii, h129, h130, hbr, lg_cmp_eq, cbn_i, one0, ↓reduceIte, not_false_eq_true, not_true_eq_false]
theorem c_try {M : SM} {S sb L n R : Nat} {w : Nat → Int32} (hS : Stat M S sb L) (hN : SR M (S + 1) w n R) : ∃ j, j ≤ 40 ∧ (∀ i, i < j → ¬ rdM (itR (rClr M (S + 111)) (S + 111) (S + 1 + 1) n i) (S + 111) (S + 1 + 1) n = 0) ∧ rdM (itR (rClr M (S + 111)) (S + 111) (S + 1 + 1) n j) (S + 111) (S + 1 + 1) n = 0 ∧ cl 69 [.ref S] M = some (none, itR (rClr M (S + 111)) (S + 111) (S + 1 + 1) n j) ∧ Fr M (itR (rClr M (S + 111)) (S + 111) (S + 1 + 1) n j) (S + 111) (S + 117) := by
  obtain ⟨⟨K0, P0, P1, P2, P3, P4, P5, P6⟩, SN, ⟨KH, PH, KR, RG⟩, ⟨KL, SL⟩, ⟨KP, PP, KC⟩, ⟨KD, PD⟩, TQ, TW, MM, ⟨LO1, LO2, LO3, LO4⟩⟩ := hS
  obtain ⟨q1, q2, q3, q4, q5⟩ := SN
  have f0 := Fr_rClr M (S + 111)
  have hcl := c_rClear TQ
  have hL2 := LR_fr hN.1 f0 (by omega)
  obtain ⟨j, j1, j2, j3, j4⟩ := c_makeRounds (M := rClr M (S + 111)) (r := S + 111) (h := S + 1 + 1) (TQ.st f0.1) (q4.st f0.1) hL2.1 hL2.2.1 (by omega) hL2.2.2.2.1
  refine ⟨j, j1, j2, it_end hL2.2.1 j2 j3, ?_, f0.trans (Fr_itR _ _ _ _ _)⟩
  show rn 69 0 [some (.ref S)] [] M = _
  simp only [t69_0, t69_1, t69_4, t69_7, t69_8, t69_11, t69_12, t69_15, t69_18, t69_21, t69_22, K0, P0, P5, q1, q2, TQ.1, va_rf_s, hcl, cbn_i, cbn_v, KK f0.1, PK f0.1, j4, ↓reduceIte]
theorem p_depth {M : SM} {S sb L B : Nat} {xs : Nat → Int32} (h : Rel M S sb L xs B) (x : Int32) : PairI 68 157 [.int x] M S sb L xs B := by
  obtain ⟨⟨K0, P0, P1, P2, P3, P4, P5, P6⟩, SN, ⟨KH, PH, KR, RG⟩, ⟨KL, SL⟩, ⟨KP, PP, KC⟩, ⟨KD, PD⟩, TQ, TW, MM, ⟨LO1, LO2, LO3, LO4⟩⟩ := id h.1.1
  obtain ⟨hX, n, R, hR, hN⟩ := id h
  have n40 := hN.1.2.1
  obtain ⟨q1, q2, q3, q4, q5⟩ := SN
  have hsz := hN.1.1
  have hw0 : mI M (S + 148 + 1) 0 = nI n := hN.1.2.2.1
  have hLm : LR M (S + 1 + 1) (mI M (S + 148 + 1)) n := hN.1
  have one0 : ((1 : Int32) = 0) = False := by decide
  have hl := c_lhas q4 x
  rw [hsz] at hl
  have hi := c_mEntry MM hw0 n40 x
  by_cases q : x < 0 ∨ nI n ≤ x
  · refine ⟨-1, M, M, Low.refl _ _, ?_, ?_, h⟩
    · show rn 68 0 [some (.ref S), some (.int x)] [] M = _
      simp only [t68_0, t68_1, t68_4, t68_7, t68_8, t68_11, t68_14, t68_15, t68_16, t68_17, t68_20, t68_21, t68_24, t68_27, t68_28, t68_29, K0, P0, q1, q2, q4.1, va_rf_s, hl, cbn_i, q, ↓reduceIte, not_true_eq_false]
    · show rn 157 0 [some (.ref (S + 148)), some (.int x), none, none, none, none] [] M = _
      simp only [t157_0, t157_1, t157_2, t157_5, t157_8, t157_9, t157_10, t157_11, t157_14, t157_15, t157_16, t157_17, t157_18, t157_21, t157_22, t157_23, t157_24, t157_25, t157_26, t157_27, t157_28, t157_31, t157_33, t157_34, t157_35, t157_39, t157_40, t157_43, t157_44, t157_47, t157_49, t157_50, t157_51, t157_52, t157_56, t157_58, t157_61, t157_62, t157_65, t157_67, t157_68, t157_70, t157_73, t157_75, t157_76, t157_77, t157_78, t157_79, t157_80, t157_83, t157_84, t157_87, t157_89, t157_90, t157_91, t157_94, t157_96, t157_97, t157_100, t157_101, t157_104, t157_106, t157_107, t157_108, t157_109, t157_112, t157_113, t157_116, t157_118, t157_119, t157_120, t157_123, t157_126, t157_129, t157_132, t157_133, t157_136, t157_137, t157_138, MM.1, hi, cbn_i, q, ↓reduceIte, not_true_eq_false]
  · obtain ⟨e, he, rfl⟩ := ent_of (n := n) (by omega) q
    obtain ⟨j, j1, -, j2, j3, j4⟩ := c_try hX.1 hN
    have hde := dep_end (r := S + 111) (by omega) hN.1 j1 j2 e he
    obtain ⟨M1, hM1⟩ : ∃ M1, M1 = itR (rClr M (S + 111)) (S + 111) (S + 1 + 1) n j := ⟨_, rfl⟩
    rw [← hM1] at j3 j4 hde
    have hLm1 : LR M (S + 1 + 1) (mI M1 (S + 148 + 1)) n := by rw [(j4.2 (S + 148 + 1) (by omega)).1]; exact hLm
    obtain ⟨N, v, a1, a2, a3, a4, a5⟩ := c_mDepth (C := M) (M := M1) (h := S + 1 + 1) (MM.st j4.1) hLm1 he
    have hin : inR (nI e) 40 = True := i_inT (by omega) (by decide)
    have hv : mI M1 (S + 111 + 1) e = v := by
      by_cases z : live (mJ M (S + 1 + 1 + 5)) (mJ M (S + 1 + 1) 1) e
      · rw [hde.1 z, a4 z]
      · rw [hde.2 z, a5 z]
    refine ⟨v, M1, N, Low.of j4 (by omega), ?_, a1, ?_⟩
    · show rn 68 0 [some (.ref S), some (.int (nI e))] [] M = _
      simp only [t68_0, t68_1, t68_4, t68_7, t68_8, t68_11, t68_14, t68_15, t68_16, t68_17, t68_20, t68_21, t68_24, t68_27, t68_28, t68_29, K0, P0, P5, q1, q2, q4.1, va_rf_s, hl, cbn_i, cbn_v, q, one0, ↓reduceIte, not_false_eq_true, j3, KK j4.1, PK j4.1, TQ.1, TQ.2.1, TQ.2.2.2.2.1, true_or, hin, and_self, nI_c (show e < 2147483648 by omega), hv]
    · have hF : XF M N S := (XF.of j4 (by omega)).trans ⟨a2, fun b hb => a3 b (by omega) (by omega), by rw [(a3 (S + 148) (by omega) (by omega)).1], by rw [(a3 (S + 148) (by omega) (by omega)).1]⟩
      refine h.q hF (fun b h1 h2 => ?_) ?_
      · have x := a3 b (by omega) (by omega)
        have y := j4.2 b (by omega)
        exact ⟨x.1.trans y.1, x.2.trans y.2⟩
      · exact ((a3 (S + 149) (by omega) (by omega)).1).trans (j4.2 (S + 149) (by omega)).1
