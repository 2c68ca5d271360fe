/-! the law's comparison holds -/
theorem m32_rp {M : SM} {S n R : Nat} (h : S9 M S n R) (n12 : n ≤ 12) : m32 (fun e => !decide (mI M (S + 1 + 7 + 1) e < 0)) n = s32 (mJ M (S + 1 + 7) 0) ∧ m32 (fun e => !decide (mI M (S + 1 + 7 + 2) e ≤ 0)) n = s32 (mJ M (S + 1 + 7) 1) ∧ w12 (mJ M (S + 1 + 7) 0) ∧ w12 (mJ M (S + 1 + 7) 1) := by
  obtain ⟨hb, hl, hlo, hrb, hrp, hrf, hrd, hwd, hti, hro⟩ := h
  refine ⟨?_, ?_, fun k hk => ?_, fun k hk => ?_⟩
  · rw [m32_s n12]
    congr 1
    apply bt_ext
    intro i hi
    rw [bt_mk _ _ _ (by omega), hrp]
    by_cases q : i < n
    · rw [decide_eq_true q, Bool.true_and, Bool.true_and]
      rcases hrb i q with h | ⟨j, hj, h⟩
      · rw [h]; decide
      · have z : ¬ nI j < 0 := nI_pos (by omega)
        have z6 : ¬ nI j = -6 := fun e => z (by rw [e]; decide)
        rw [h, decide_eq_false z, decide_eq_false z6]
    · rw [decide_eq_false q, Bool.false_and, Bool.false_and]
  · rw [m32_s n12]
    congr 1
    apply bt_ext
    intro i hi
    rw [bt_mk _ _ _ (by omega), hrf]
  · rw [hrp, Bool.and_eq_true, decide_eq_true_eq] at hk; omega
  · rw [hrf, Bool.and_eq_true, decide_eq_true_eq] at hk; omega
theorem clr_rows (N : SM) (r : Nat) : (∀ e, e < 40 → mI (rClr N r) (r + 1) e = -6 ∧ mI (rClr N r) (r + 2) e = -6) ∧ (∀ f, f < 16 → mI (rClr N r) (r + 4) f = -6) ∧ mI (rClr N r) (r + 5) 0 = 0 ∧ ∀ f, 0 < f → f < 16 → mI (rClr N r) (r + 5) f = -6 := by
  unfold rClr
  refine ⟨fun e he => ⟨?_, ?_⟩, fun f hf => ?_, ?_, fun f h0 hf => ?_⟩
  · rw [mI_sI, if_neg (by omega), mI_sI, if_neg (by omega), mI_sI, if_neg (by omega), mI_sI, if_pos rfl]; exact if_pos he
  · rw [mI_sI, if_neg (by omega), mI_sI, if_neg (by omega), mI_sI, if_pos rfl]; exact if_pos he
  · rw [mI_sI, if_neg (by omega), mI_sI, if_pos rfl]; exact if_pos hf
  · rw [mI_sI, if_pos rfl, va_up_self]
  · rw [mI_sI, if_pos rfl, va_up_ne _ _ (by omega)]; exact if_pos hf
/-- to the first entry -/
theorem s_start {M : SM} {S sb L n R : Nat} (h : R9 M S sb L n R) : cl 69 [.ref S, .ref (S + 148), .ref (S + 149), .ref (S + 150), .ref (S + 151), .ref (S + 152), .ref (S + 153), .ref (S + 154)] M = rn 69 30 [some (.ref S), some (.ref (S + 148)), some (.ref (S + 149)), some (.ref (S + 150)), some (.ref (S + 151)), some (.ref (S + 152)), some (.ref (S + 153)), some (.ref (S + 154)), some (.int (s32 (mJ M (S + 1 + 1) 1))), some (.int (s32 (orpB (mJ M (S + 1 + 1 + 5)) n (mJ M (S + 1 + 1) 1)))), some (.int (0)), some (.int (0)), some (.int (-6)), some (.int (-1)), some (.int (0)), none, none, none, none, none, none, none, none, none] [] M := by
  have hF := Fq.refl M S
  have n12 : n ≤ 12 := h.2.2.2.2.2.1
  obtain ⟨hb, hl, hlo, hrb, hrp, hrf, hrd, hwd, hti, hro⟩ := h.s
  have wlo : w12 (mJ M (S + 1 + 1) 1) := w12_of hlo n12
  obtain ⟨⟨kq, ke, kd, kt, ko, ky, kp⟩, ⟨Q0, Q1, Q2⟩, En, De, Tr, k0⟩ := h.n hF
  have one0 : ((1 : Int32) = 0) = False := by decide
  have z01 : ((0 : Int32) = 1) = False := by decide
  have lnk : ∀ x, x ≤ 12 → (nI n ≤ nI x) = (n ≤ x) := fun x hx => lE (by omega) (by omega)
  have hop := c_orphans3 kq kd n12 Q0 wlo De hb hl
  show rn 69 0 [some (.ref S), some (.ref (S + 148)), some (.ref (S + 149)), some (.ref (S + 150)), some (.ref (S + 151)), some (.ref (S + 152)), some (.ref (S + 153)), some (.ref (S + 154)), none, none, none, none, none, none, none, none, none, none, none, none, none, none, none, none] [] M = _
  simp only [t69_0, t69_1, t69_2, t69_3, t69_5, t69_7, t69_8, t69_9, t69_12, t69_14, t69_15, t69_17, t69_18, t69_20, t69_22, t69_24, t69_25, t69_27, t69_28, kq, true_or, i23, and_self, ↓reduceIte, z2, Q2, hop, cbn_i]
/-- the last part of the comparison -/
theorem s_end {M Q M3 : SM} {S sb L n R : Nat} {u : Int32} (h : R9 M S sb L n R) (hF : Fq M Q S) (hF3 : Fq M M3 S) (hu : cl 81 [.ref S] Q = some (some (.int u), M3)) (jk8 jk9 jk10 jk11 jk12 jk13 jk14 jk15 jk16 jk17 jk18 jk19 jk20 jk21 jk22 jk23 : Option Value) : rn 69 986 [some (.ref S), some (.ref (S + 148)), some (.ref (S + 149)), some (.ref (S + 150)), some (.ref (S + 151)), some (.ref (S + 152)), some (.ref (S + 153)), some (.ref (S + 154)), some (.int (s32 (mJ M (S + 1 + 1) 1))), some (.int (s32 (orpB (mJ M (S + 1 + 1 + 5)) n (mJ M (S + 1 + 1) 1)))), some (.int (s32 (mJ M (S + 1 + 7) 0))), some (.int (s32 (mJ M (S + 1 + 7) 1))), some (.int ((wst (mJ M (S + 1 + 1) 1) (fun k => cnt (bt (orpB (mJ M (S + 1 + 1 + 5)) n (mJ M (S + 1 + 1) 1 ||| bE k))) 64) (n)).1)), some (.int (if (wst (mJ M (S + 1 + 1) 1) (fun k => cnt (bt (orpB (mJ M (S + 1 + 1 + 5)) n (mJ M (S + 1 + 1) 1 ||| bE k))) 64) (n)).1 = -6 then -1 else (wst (mJ M (S + 1 + 1) 1) (fun k => cnt (bt (orpB (mJ M (S + 1 + 1 + 5)) n (mJ M (S + 1 + 1) 1 ||| bE k))) 64) (n)).2)), some (.int (nI (wdN (mI M (S + 1 + 7 + 1)) n R))), some (.int (nI (cnt (fun f => !decide (mI M (S + 1 + 7 + 5) f = -6)) 6))), some (.int (u)), jk17, jk18, jk19, jk20, jk21, jk22, jk23] [] Q = some (some (.int 1), M3) := by
  have n12 : n ≤ 12 := h.2.2.2.2.2.1
  obtain ⟨hb, hl, hlo, hrb, hrp, hrf, hrd, hwd, hti, hro⟩ := h.s
  have wlo : w12 (mJ M (S + 1 + 1) 1) := w12_of hlo n12
  obtain ⟨⟨kq, ke, kd, kt, ko, ky, kp⟩, ⟨Q0, Q1, Q2⟩, En, De, Tr, k0⟩ := h.n hF
  have one0 : ((1 : Int32) = 0) = False := by decide
  have z01 : ((0 : Int32) = 1) = False := by decide
  have lnk : ∀ x, x ≤ 12 → (nI n ≤ nI x) = (n ≤ x) := fun x hx => lE (by omega) (by omega)
  obtain ⟨-, -, wrp, wrf⟩ := m32_rp h.s n12
  have h6 : Six (mI M (S + 1 + 7 + 5)) := h.2.2.2.2.2.2.2.2.1
  obtain ⟨⟨kq', ke', kd', -, -, -, -⟩, ⟨Q0', Q1', Q2'⟩, En', De', -, k0'⟩ := h.n hF3
  have w0 := q_worst h hF3 (x := 0) (Or.inl rfl)
  have w1 := q_worst h hF3 (x := 1) (Or.inr rfl)
  have c0 := q_cnt0 h hF3
  have c1 := q_cnt1 h hF3
  have c2 := q_cnt2 h hF3
  have c3 := q_cnt3 h hF3
  have c4 := q_cnt4 h hF3
  have c5 := q_cnt5 h hF3
  have c6 := q_cnt6 h hF3
  have c7 := q_cnt7 h hF3
  have s0 := q_set0 h hF3
  have s1 := q_set1 h hF3
  have s2 := q_set2 h hF3
  have s3 := q_set3 h hF3
  have s4 := q_set4 h hF3
  rw [hrd] at c5
  rw [hwd] at c7
  have hth : cnt (fun f => !decide (mI M (S + 1 + 7 + 5) f = -6)) 16 = cnt (fun f => !decide (mI M (S + 1 + 7 + 5) f = -6)) 6 := cnt_more _ (by decide) (fun g g1 g2 => by rw [h6 g g1 g2]; rfl)
  rw [hth] at c6
  have b1 := c_bits3 wlo M3
  have b2 := c_bits3 (orpB_w (g := mJ M (S + 1 + 1 + 5)) (x := mJ M (S + 1 + 1) 1) n12) M3
  have b3 := c_bits3 wrp M3
  have b4 := c_bits3 wrf M3
  have hry := c_ready3 kq' ke' kd' n12 Q0' Q2' wlo (fun e he => (En' e he).2.2.2.1) hrb hrp De' hb
  have wry : w12 (rdyB (mJ M (S + 1 + 1 + 4)) n (mJ M (S + 1 + 1) 1) (mJ M (S + 1 + 7) 0)) := w12_mk n12
  have hor := wst_or (lost := mJ M (S + 1 + 1) 1) (c := (fun k => cnt (bt (orpB (mJ M (S + 1 + 1 + 5)) n (mJ M (S + 1 + 1) 1 ||| bE k))) 64)) (fun k => cnt_le _ _) n (by omega)
  obtain ⟨X, hX⟩ : ∃ X, X = wst (mJ M (S + 1 + 1) 1) (fun k => cnt (bt (orpB (mJ M (S + 1 + 1 + 5)) n (mJ M (S + 1 + 1) 1 ||| bE k))) 64) n := ⟨_, rfl⟩
  rw [← hX] at hor w0 w1 ⊢
  rw [if_pos rfl] at w0
  rw [if_neg (by decide)] at w1
  have he6 : ∀ j, j < 64 → (nI j = -6) = False := fun j hj => eq_false ((by decide +kernel : ∀ j, j < 64 → ¬ nI j = -6) j hj)
  have hge : ∀ j, j < 64 → ((0 : Int32) ≤ nI j) = True := fun j hj => eq_true ((by decide +kernel : ∀ j, j < 64 → (0 : Int32) ≤ nI j) j hj)
  have g6 : ((0 : Int32) ≤ -6) = False := by decide
  have m66 : ((-6 : Int32) = -6) = True := by decide
  rcases hor with ho | ⟨j, d, j1, d1, ho⟩
  · rw [ho] at w0 w1 ⊢
    simp only [t69_986, t69_987, t69_990, t69_992, t69_995, t69_996, t69_997, t69_1000, t69_1002, t69_1005, t69_1006, t69_1007, t69_1010, t69_1012, t69_1015, t69_1017, t69_1020, t69_1022, t69_1025, t69_1026, t69_1027, t69_1028, t69_1029, t69_1032, t69_1033, t69_1034, t69_1035, t69_1038, t69_1039, t69_1040, t69_1043, t69_1045, t69_1048, t69_1051, t69_1052, t69_1053, t69_1056, t69_1058, t69_1061, t69_1064, t69_1065, t69_1066, t69_1069, t69_1071, t69_1074, t69_1077, t69_1078, t69_1079, t69_1082, t69_1084, t69_1087, t69_1090, t69_1091, t69_1092, t69_1095, t69_1096, t69_1097, t69_1098, t69_1101, t69_1102, t69_1104, t69_1107, t69_1109, t69_1112, t69_1113, t69_1115, t69_1118, t69_1120, t69_1123, t69_1124, t69_1125, t69_1128, t69_1130, t69_1131, t69_1132, t69_1135, t69_1136, t69_1137, t69_1140, t69_1142, t69_1143, t69_1144, t69_1147, t69_1148, t69_1149, t69_1152, t69_1154, t69_1155, t69_1156, t69_1159, t69_1160, t69_1161, t69_1164, t69_1166, t69_1167, t69_1168, t69_1171, t69_1172, t69_1173, t69_1176, t69_1177, t69_1178, t69_1179, t69_1182, t69_1183, t69_1184, t69_1187, t69_1188, t69_1191, t69_1192, k0, k0', hu, cbn_i, w0, w1, m66, g6, c0, c1, c2, c3, c4, c5, c6, c7, s0, s1, s2, s3, s4, kq', ke', true_or, i03, i13, and_self, ↓reduceIte, z0, z1, Q0', Q1', b1, b2, b3, b4, not_true_eq_false, s32_l wlo, s32_l (orpB_w n12), s32_l wrp, s32_l wrf, hry, s32_l wry, lg_cmp_eq, or_true]
  · rw [ho] at w0 w1 ⊢
    simp only [t69_986, t69_987, t69_990, t69_992, t69_995, t69_996, t69_997, t69_1000, t69_1002, t69_1005, t69_1006, t69_1007, t69_1010, t69_1012, t69_1015, t69_1017, t69_1020, t69_1022, t69_1025, t69_1026, t69_1027, t69_1028, t69_1029, t69_1032, t69_1033, t69_1034, t69_1035, t69_1038, t69_1039, t69_1040, t69_1043, t69_1045, t69_1048, t69_1051, t69_1052, t69_1053, t69_1056, t69_1058, t69_1061, t69_1064, t69_1065, t69_1066, t69_1069, t69_1071, t69_1074, t69_1077, t69_1078, t69_1079, t69_1082, t69_1084, t69_1087, t69_1090, t69_1091, t69_1092, t69_1095, t69_1096, t69_1097, t69_1098, t69_1101, t69_1102, t69_1104, t69_1107, t69_1109, t69_1112, t69_1113, t69_1115, t69_1118, t69_1120, t69_1123, t69_1124, t69_1125, t69_1128, t69_1130, t69_1131, t69_1132, t69_1135, t69_1136, t69_1137, t69_1140, t69_1142, t69_1143, t69_1144, t69_1147, t69_1148, t69_1149, t69_1152, t69_1154, t69_1155, t69_1156, t69_1159, t69_1160, t69_1161, t69_1164, t69_1166, t69_1167, t69_1168, t69_1171, t69_1172, t69_1173, t69_1176, t69_1177, t69_1178, t69_1179, t69_1182, t69_1183, t69_1184, t69_1187, t69_1188, t69_1191, t69_1192, k0, k0', hu, cbn_i, w0, w1, he6 j j1, hge j j1, c0, c1, c2, c3, c4, c5, c6, c7, s0, s1, s2, s3, s4, kq', ke', true_or, i03, i13, and_self, ↓reduceIte, z0, z1, Q0', Q1', b1, b2, b3, b4, not_true_eq_false, s32_l wlo, s32_l (orpB_w n12), s32_l wrp, s32_l wrf, hry, s32_l wry, lg_cmp_eq, or_true]
