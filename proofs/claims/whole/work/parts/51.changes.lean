/-! need, lose, find, round, replay, beginAnew -/
theorem rp_eq {rp rf : Int64} {ro re : Nat → Int32} {rounds wid : Int32} {D V w : Nat → Int32} {n R : Nat} (h : RRel rp rf ro re rounds wid D V w n R) (n40 : n ≤ 40) : mk (fun e => !decide (w (2 + 8 * e + 4) = -6)) n = rp := by
  obtain ⟨w1, rds, rr, fro, rob, rps, rfs, wds, tr, ti⟩ := h
  apply bt_ext
  intro i hi
  rw [bt_mk _ _ _ (by omega), rps]
  by_cases q : i < n
  · rw [(rr i q).1]
  · simp [q]
theorem rf_eq {rp rf : Int64} {ro re : Nat → Int32} {rounds wid : Int32} {D V w : Nat → Int32} {n R : Nat} (h : RRel rp rf ro re rounds wid D V w n R) (n40 : n ≤ 40) : mk (fun e => !decide (w (2 + 8 * e + 5) ≤ 0)) n = rf := by
  obtain ⟨w1, rds, rr, fro, rob, rps, rfs, wds, tr, ti⟩ := h
  apply bt_ext
  intro i hi
  rw [bt_mk _ _ _ (by omega), rfs]
  by_cases q : i < n
  · rw [(rr i q).2.1]
  · simp [q]
theorem rp_b {rp rf : Int64} {ro re : Nat → Int32} {rounds wid : Int32} {D V w : Nat → Int32} {n R : Nat} (h : RRel rp rf ro re rounds wid D V w n R) (k : Nat) (hk : bt rp k = true) : k < n := by
  obtain ⟨w1, rds, rr, fro, rob, rps, rfs, wds, tr, ti⟩ := h
  rw [rps, Bool.and_eq_true, decide_eq_true_eq] at hk
  exact hk.1
theorem rf_b {rp rf : Int64} {ro re : Nat → Int32} {rounds wid : Int32} {D V w : Nat → Int32} {n R : Nat} (h : RRel rp rf ro re rounds wid D V w n R) (k : Nat) (hk : bt rf k = true) : k < n := by
  obtain ⟨w1, rds, rr, fro, rob, rps, rfs, wds, tr, ti⟩ := h
  rw [rfs, Bool.and_eq_true, decide_eq_true_eq] at hk
  exact hk.1
def noWhy (M : SM) (_ : Nat) : Out := some (some (.int 0), M)
theorem Fr_mkR (M : SM) (r h n : Nat) : Fr M (mkR M r h n) r (r + 6) := ⟨mkR_st _ _ _ _, fun b hb => ⟨mkR_I hb, mkR_J (by omega)⟩⟩
theorem Fr_itR (M : SM) (r h n : Nat) (j : Nat) : Fr M (itR M r h n j) r (r + 6) := ⟨itR_st _ _ _ _ j, fun b hb => ⟨itR_I hb j, itR_J (by omega) j⟩⟩
theorem st_round {C : SM} {s n R : Nat} {w : Nat → Int32} (hC : StAt C s) (hS : SR C s w n R) (hb : R + 1 < 2147483648) : ∃ e C', cl 47 [.ref (s + 7), .ref (s + 1)] C = some (some (.int e), C') ∧ Fr C C' (s + 1) (s + 13) ∧ StepR C C' s w e noWhy (fun M m => cl 136 [.ref m] M) (R + 1) := by
  obtain ⟨k1, k2, k3, k4, k5⟩ := hC
  have n40 := hS.1.2.1
  have hc := c_makeRound (M := C) (r := s + 7) (h := s + 1) (n := n) k5 k4 hS.1.1 n40 (by omega) hS.1.2.2.2.1
  refine ⟨_, _, hc, (Fr_mkR _ _ _ _).mono (by omega) (by omega), Or.inr ⟨nI_pos (by have := cnt_le (bt (rdM C (s + 7) (s + 1) n)) 64; omega), fun M m hm hw => ⟨rfl, ?_⟩⟩⟩
  subst hw
  obtain ⟨e, W, h1, h2, h3⟩ := c_roundBoth (C := C) (r := s + 7) (h := s + 1) (by omega) hm hS.1 hS.2 hb
  exact ⟨_, h1, OpF.sI _ _ _, n, R + 1, Nat.le_refl _, by rw [mI_sI, if_pos rfl]; exact ⟨h2, h3⟩⟩
theorem st_replay {C : SM} {s n R : Nat} {w : Nat → Int32} (hC : StAt C s) (hS : SR C s w n R) (hb : R + 41 < 2147483648) : ∃ e C', cl 58 [.ref (s + 7), .ref (s + 1)] C = some (some (.int e), C') ∧ Fr C C' (s + 1) (s + 13) ∧ StepR C C' s w e noWhy (fun M m => cl 145 [.ref m] M) (R + 40) := by
  obtain ⟨k1, k2, k3, k4, k5⟩ := hC
  obtain ⟨j, j40, hc, hr⟩ := replays_both (C := C) (r := s + 7) (h := s + 1) (by omega) k5 k4 hS.1 hS.2 hb
  refine ⟨_, _, hc, (Fr_itR _ _ _ _ _).mono (by omega) (by omega), Or.inr ⟨nI_pos (by omega), fun M m hm hw => ⟨rfl, ?_⟩⟩⟩
  obtain ⟨W, h1, h2, h3⟩ := hr M m hm hw
  exact ⟨_, h1, OpF.sI _ _ _, n, R + j, by omega, by rw [mI_sI, if_pos rfl]; exact ⟨h2, h3⟩⟩
theorem st_anew {C : SM} {s n R : Nat} {w : Nat → Int32} (hC : StAt C s) (hS : SR C s w n R) : StepR C (rClr C (s + 7)) s w (nI (cnt (bt (mJ C (s + 7) 0)) 64)) noWhy (fun M m => rn 133 4 [some (.ref m), none] [] M) 0 := by
  have n40 := hS.1.2.1
  refine Or.inr ⟨nI_pos (by have := cnt_le (bt (mJ C (s + 7) 0)) 64; omega), fun M m hm hw => ⟨rfl, ?_⟩⟩
  obtain ⟨W, b1, b2, b3⟩ := anew_both hS.1 hS.2 rfl M m hm hw
  have hr := c_mReplayed (n := n) hm (by rw [hw]; exact hS.1.2.2.1) n40
  rw [hw, rp_eq hS.2 n40] at hr
  refine ⟨_, ?_, OpF.sI _ _ _, n, 0, Nat.le_refl _, by rw [mI_sI, if_pos rfl]; exact b2⟩
  simp only [t133_0, t133_1, t133_4, t133_5, t133_8, t133_11, t133_12, t133_13, t133_16, t133_17, hm.1, hr, b1, cbn_i, cbn_v, c_bits, cnt_40 n40 (rp_b hS.2), ↓reduceIte]
theorem StepR.up {C C' : SM} {s : Nat} {w : Nat → Int32} {e : Int32} {why op : SM → Nat → Out} {B B' : Nat} (h : StepR C C' s w e why op B) (hB : B ≤ B') : StepR C C' s w e why op B' := by
  rcases h with h | ⟨h1, h2⟩
  · exact Or.inl h
  · refine Or.inr ⟨h1, fun M m hm hw => ?_⟩
    obtain ⟨a, M', b, c, n, R, d, f⟩ := h2 M m hm hw
    exact ⟨a, M', b, c, n, R, by omega, f⟩
theorem p_need {M : SM} {S sb L B : Nat} {xs : Nat → Int32} (h : Rel M S sb L xs B) (hB : B + 41 < 2147483648) (x y : Int32) : PairI 34 119 [.int x, .int y] M S sb L xs (B + 0) := by
  obtain ⟨⟨K0, P0, P1, P2, P3, P4, P5, P6⟩, SN, ⟨KH, PH, KR, RG⟩, ⟨KL, SL⟩, ⟨KP, PP, KC⟩, ⟨KD, PD⟩, TQ, TW, MM, ⟨LO1, LO2, LO3, LO4⟩⟩ := id h.1.1
  obtain ⟨M1, a1, a2, a3, a4⟩ := c_prepare h
  obtain ⟨hX, n, R, hR, hN⟩ := id a2
  obtain ⟨e, M2, b1, b2, b3⟩ := st_need (C := M1) (s := S + 1) hX.1.2.1 hN x y
  obtain ⟨M3, c1, c2, clo, c3⟩ := chg a2 a4 (b2.mono (by omega) (by omega)) (Nat.le_add_right B 0) (b3.up (by omega))
  have low : Low M M3 S := ⟨c2.trans a3.1, fun b hb => (clo b hb).trans (a3.2 b (by omega)).1⟩
  refine ⟨e, M3, ?_⟩
  have hc : cl 34 [.ref S, .int x, .int y] M = some (some (.int e), M3) := by
    show rn 34 0 [some (.ref S), some (.int x), some (.int y)] [] M = _
    simp only [t34_0, t34_1, t34_4, t34_5, t34_8, t34_11, t34_12, t34_13, t34_16, t34_17, t34_18, t34_21, t34_24, K0, P0, P1, KH, SN.1, SN.2.1, SN.2.2.1, SN.2.2.2.1.1, SN.2.2.2.2.1, va_rf_s, ↓reduceIte, a1, cbn_v, cbn_i, KK a3.1, PK a3.1, b1, KK b2.1, PK b2.1, c1]
  rcases c3 with ⟨d1, d2, d3⟩ | ⟨d1, d2, M4, M5, d3, d4, d5, d6⟩
  · refine ⟨M3, low, hc, ?_, d3⟩
    show rn 119 0 [some (.ref (S + 148)), some (.int x), some (.int y), none] [] M3 = _
    simp only [t119_0, t119_1, t119_2, t119_3, t119_6, t119_7, t119_8, t119_11, t119_12, t119_13, t119_14, t119_17, t119_18, t119_19, t119_20, t119_23, KK c2, KK a3.1, MM.1, ↓reduceIte, (show cl 120 [.ref (S + 148), .int x, .int y] M3 = _ from d2), cbn_i, ge_no d1]
  · refine ⟨M5, low, hc, ?_, d6⟩
    show rn 119 0 [some (.ref (S + 148)), some (.int x), some (.int y), none] [] M3 = _
    simp only [t119_0, t119_1, t119_2, t119_3, t119_6, t119_7, t119_8, t119_11, t119_12, t119_13, t119_14, t119_17, t119_18, t119_19, t119_20, t119_23, KK c2, KK a3.1, KK d4, MM.1, ↓reduceIte, (show cl 120 [.ref (S + 148), .int x, .int y] M3 = _ from d2), d3, (show cl 122 [.ref (S + 148), .int x, .int y] M4 = _ from d5), cbn_i, cbn_v, ge_0]
theorem p_lose {M : SM} {S sb L B : Nat} {xs : Nat → Int32} (h : Rel M S sb L xs B) (hB : B + 41 < 2147483648) (x : Int32) : PairI 38 126 [.int x] M S sb L xs (B + 0) := by
  obtain ⟨⟨K0, P0, P1, P2, P3, P4, P5, P6⟩, SN, ⟨KH, PH, KR, RG⟩, ⟨KL, SL⟩, ⟨KP, PP, KC⟩, ⟨KD, PD⟩, TQ, TW, MM, ⟨LO1, LO2, LO3, LO4⟩⟩ := id h.1.1
  obtain ⟨M1, a1, a2, a3, a4⟩ := c_prepare h
  obtain ⟨hX, n, R, hR, hN⟩ := id a2
  obtain ⟨e, M2, b1, b2, b3⟩ := st_lost (C := M1) (s := S + 1) hX.1.2.1 hN x false
  obtain ⟨M3, c1, c2, clo, c3⟩ := chg a2 a4 (b2.mono (by omega) (by omega)) (Nat.le_add_right B 0) (b3.up (by omega))
  have low : Low M M3 S := ⟨c2.trans a3.1, fun b hb => (clo b hb).trans (a3.2 b (by omega)).1⟩
  refine ⟨e, M3, ?_⟩
  have b1x : cl 39 [.ref (S + 1), .int x] M1 = some (some (.int e), M2) := by
    show rn 39 0 [some (.ref (S + 1)), some (.int x)] [] M1 = _
    simp only [t39_0, t39_1, t39_2, t39_3, t39_6, KK a3.1, SN.1, ↓reduceIte, (show cl 40 [.ref (S + 1), .int x, .int 0] M1 = _ from b1), cbn_i]
  have hc : cl 38 [.ref S, .int x] M = some (some (.int e), M3) := by
    show rn 38 0 [some (.ref S), some (.int x)] [] M = _
    simp only [t38_0, t38_1, t38_4, t38_5, t38_8, t38_11, t38_12, t38_13, t38_16, t38_17, t38_20, t38_23, b1x, K0, P0, P1, KH, SN.1, SN.2.1, SN.2.2.1, SN.2.2.2.1.1, SN.2.2.2.2.1, va_rf_s, ↓reduceIte, a1, cbn_v, cbn_i, KK a3.1, PK a3.1, b1, KK b2.1, PK b2.1, c1]
  rcases c3 with ⟨d1, d2, d3⟩ | ⟨d1, d2, M4, M5, d3, d4, d5, d6⟩
  · refine ⟨M3, low, hc, ?_, d3⟩
    show rn 126 0 [some (.ref (S + 148)), some (.int x), none] [] M3 = _
    simp only [t126_0, t126_1, t126_2, t126_3, t126_6, t126_7, t126_8, t126_11, t126_12, t126_13, t126_14, t126_17, t126_18, t126_19, t126_20, t126_23, KK c2, KK a3.1, MM.1, ↓reduceIte, (show cl 127 [.ref (S + 148), .int x, .int 1] M3 = _ from d2), cbn_i, ge_no d1]
  · refine ⟨M5, low, hc, ?_, d6⟩
    show rn 126 0 [some (.ref (S + 148)), some (.int x), none] [] M3 = _
    simp only [t126_0, t126_1, t126_2, t126_3, t126_6, t126_7, t126_8, t126_11, t126_12, t126_13, t126_14, t126_17, t126_18, t126_19, t126_20, t126_23, KK c2, KK a3.1, KK d4, MM.1, ↓reduceIte, (show cl 127 [.ref (S + 148), .int x, .int 1] M3 = _ from d2), d3, (show cl 128 [.ref (S + 148), .int x, .int 1] M4 = _ from d5), cbn_i, cbn_v, ge_0]
theorem p_find {M : SM} {S sb L B : Nat} {xs : Nat → Int32} (h : Rel M S sb L xs B) (hB : B + 41 < 2147483648) (x : Int32) : PairI 43 132 [.int x] M S sb L xs (B + 0) := by
  obtain ⟨⟨K0, P0, P1, P2, P3, P4, P5, P6⟩, SN, ⟨KH, PH, KR, RG⟩, ⟨KL, SL⟩, ⟨KP, PP, KC⟩, ⟨KD, PD⟩, TQ, TW, MM, ⟨LO1, LO2, LO3, LO4⟩⟩ := id h.1.1
  obtain ⟨M1, a1, a2, a3, a4⟩ := c_prepare h
  obtain ⟨hX, n, R, hR, hN⟩ := id a2
  obtain ⟨e, M2, b1, b2, b3⟩ := st_lost (C := M1) (s := S + 1) hX.1.2.1 hN x true
  obtain ⟨M3, c1, c2, clo, c3⟩ := chg a2 a4 (b2.mono (by omega) (by omega)) (Nat.le_add_right B 0) (b3.up (by omega))
  have low : Low M M3 S := ⟨c2.trans a3.1, fun b hb => (clo b hb).trans (a3.2 b (by omega)).1⟩
  refine ⟨e, M3, ?_⟩
  have b1x : cl 44 [.ref (S + 1), .int x] M1 = some (some (.int e), M2) := by
    show rn 44 0 [some (.ref (S + 1)), some (.int x)] [] M1 = _
    simp only [t44_0, t44_1, t44_2, t44_3, t44_6, KK a3.1, SN.1, ↓reduceIte, (show cl 40 [.ref (S + 1), .int x, .int 1] M1 = _ from b1), cbn_i]
  have hc : cl 43 [.ref S, .int x] M = some (some (.int e), M3) := by
    show rn 43 0 [some (.ref S), some (.int x)] [] M = _
    simp only [t43_0, t43_1, t43_4, t43_5, t43_8, t43_11, t43_12, t43_13, t43_16, t43_17, t43_20, t43_23, b1x, K0, P0, P1, KH, SN.1, SN.2.1, SN.2.2.1, SN.2.2.2.1.1, SN.2.2.2.2.1, va_rf_s, ↓reduceIte, a1, cbn_v, cbn_i, KK a3.1, PK a3.1, b1, KK b2.1, PK b2.1, c1]
  rcases c3 with ⟨d1, d2, d3⟩ | ⟨d1, d2, M4, M5, d3, d4, d5, d6⟩
  · refine ⟨M3, low, hc, ?_, d3⟩
    show rn 132 0 [some (.ref (S + 148)), some (.int x), none] [] M3 = _
    simp only [t132_0, t132_1, t132_2, t132_3, t132_6, t132_7, t132_8, t132_11, t132_12, t132_13, t132_14, t132_17, t132_18, t132_19, t132_20, t132_23, KK c2, KK a3.1, MM.1, ↓reduceIte, (show cl 127 [.ref (S + 148), .int x, .int 0] M3 = _ from d2), cbn_i, ge_no d1]
  · refine ⟨M5, low, hc, ?_, d6⟩
    show rn 132 0 [some (.ref (S + 148)), some (.int x), none] [] M3 = _
    simp only [t132_0, t132_1, t132_2, t132_3, t132_6, t132_7, t132_8, t132_11, t132_12, t132_13, t132_14, t132_17, t132_18, t132_19, t132_20, t132_23, KK c2, KK a3.1, KK d4, MM.1, ↓reduceIte, (show cl 127 [.ref (S + 148), .int x, .int 0] M3 = _ from d2), d3, (show cl 128 [.ref (S + 148), .int x, .int 0] M4 = _ from d5), cbn_i, cbn_v, ge_0]
theorem p_round {M : SM} {S sb L B : Nat} {xs : Nat → Int32} (h : Rel M S sb L xs B) (hB : B + 41 < 2147483648) : PairI 46 135 [] M S sb L xs (B + 1) := by
  obtain ⟨⟨K0, P0, P1, P2, P3, P4, P5, P6⟩, SN, ⟨KH, PH, KR, RG⟩, ⟨KL, SL⟩, ⟨KP, PP, KC⟩, ⟨KD, PD⟩, TQ, TW, MM, ⟨LO1, LO2, LO3, LO4⟩⟩ := id h.1.1
  obtain ⟨M1, a1, a2, a3, a4⟩ := c_prepare h
  obtain ⟨hX, n, R, hR, hN⟩ := id a2
  obtain ⟨e, M2, b1, b2, b3⟩ := st_round (C := M1) (s := S + 1) hX.1.2.1 hN (by omega)
  obtain ⟨M3, c1, c2, clo, c3⟩ := chg a2 a4 (b2.mono (by omega) (by omega)) (Nat.le_add_right B 1) (b3.up (by omega))
  have low : Low M M3 S := ⟨c2.trans a3.1, fun b hb => (clo b hb).trans (a3.2 b (by omega)).1⟩
  refine ⟨e, M3, ?_⟩
  have hc : cl 46 [.ref S] M = some (some (.int e), M3) := by
    show rn 46 0 [some (.ref S)] [] M = _
    simp only [t46_0, t46_1, t46_4, t46_5, t46_8, t46_11, t46_12, t46_13, t46_16, t46_19, t46_20, t46_23, t46_26, t46_29, t46_32, K0, P0, P1, KH, SN.1, SN.2.1, SN.2.2.1, SN.2.2.2.1.1, SN.2.2.2.2.1, va_rf_s, ↓reduceIte, a1, cbn_v, cbn_i, KK a3.1, PK a3.1, b1, KK b2.1, PK b2.1, c1]
  rcases c3 with ⟨d1, d2, d3⟩ | ⟨d1, d2, M4, M5, d3, d4, d5, d6⟩
  · exfalso
    have : (some (some (.int 0), M3) : Out) = some (some (.int e), M3) := d2
    cases this
    exact absurd d1 (by decide)
  · refine ⟨M5, low, hc, ?_, d6⟩
    show rn 135 0 [some (.ref (S + 148))] [] M3 = _
    simp only [t135_0, t135_1, t135_4, t135_5, t135_8, KK c2, KK a3.1, KK d4, MM.1, ↓reduceIte, d3, (show cl 136 [.ref (S + 148)] M4 = _ from d5), cbn_i, cbn_v]
theorem p_replay {M : SM} {S sb L B : Nat} {xs : Nat → Int32} (h : Rel M S sb L xs B) (hB : B + 41 < 2147483648) : PairI 57 144 [] M S sb L xs (B + 40) := by
  obtain ⟨⟨K0, P0, P1, P2, P3, P4, P5, P6⟩, SN, ⟨KH, PH, KR, RG⟩, ⟨KL, SL⟩, ⟨KP, PP, KC⟩, ⟨KD, PD⟩, TQ, TW, MM, ⟨LO1, LO2, LO3, LO4⟩⟩ := id h.1.1
  obtain ⟨M1, a1, a2, a3, a4⟩ := c_prepare h
  obtain ⟨hX, n, R, hR, hN⟩ := id a2
  obtain ⟨e, M2, b1, b2, b3⟩ := st_replay (C := M1) (s := S + 1) hX.1.2.1 hN (by omega)
  obtain ⟨M3, c1, c2, clo, c3⟩ := chg a2 a4 (b2.mono (by omega) (by omega)) (Nat.le_add_right B 40) (b3.up (by omega))
  have low : Low M M3 S := ⟨c2.trans a3.1, fun b hb => (clo b hb).trans (a3.2 b (by omega)).1⟩
  refine ⟨e, M3, ?_⟩
  have hc : cl 57 [.ref S] M = some (some (.int e), M3) := by
    show rn 57 0 [some (.ref S)] [] M = _
    simp only [t57_0, t57_1, t57_4, t57_5, t57_8, t57_11, t57_12, t57_13, t57_16, t57_19, t57_20, t57_23, t57_26, t57_29, t57_32, K0, P0, P1, KH, SN.1, SN.2.1, SN.2.2.1, SN.2.2.2.1.1, SN.2.2.2.2.1, va_rf_s, ↓reduceIte, a1, cbn_v, cbn_i, KK a3.1, PK a3.1, b1, KK b2.1, PK b2.1, c1]
  rcases c3 with ⟨d1, d2, d3⟩ | ⟨d1, d2, M4, M5, d3, d4, d5, d6⟩
  · exfalso
    have : (some (some (.int 0), M3) : Out) = some (some (.int e), M3) := d2
    cases this
    exact absurd d1 (by decide)
  · refine ⟨M5, low, hc, ?_, d6⟩
    show rn 144 0 [some (.ref (S + 148))] [] M3 = _
    simp only [t144_0, t144_1, t144_4, t144_5, t144_8, KK c2, KK a3.1, KK d4, MM.1, ↓reduceIte, d3, (show cl 145 [.ref (S + 148)] M4 = _ from d5), cbn_i, cbn_v]
theorem p_beginAnew {M : SM} {S sb L B : Nat} {xs : Nat → Int32} (h : Rel M S sb L xs B) : PairI 45 133 [] M S sb L xs B := by
  obtain ⟨⟨K0, P0, P1, P2, P3, P4, P5, P6⟩, SN, ⟨KH, PH, KR, RG⟩, ⟨KL, SL⟩, ⟨KP, PP, KC⟩, ⟨KD, PD⟩, TQ, TW, MM, ⟨LO1, LO2, LO3, LO4⟩⟩ := id h.1.1
  obtain ⟨M1, a1, a2, a3, a4⟩ := c_prepare h
  obtain ⟨hX, n, R, hR, hN⟩ := id a2
  have b3 := st_anew (C := M1) (s := S + 1) hX.1.2.1 hN
  have b2 := Fr_rClr M1 (S + 8)
  have b1 := c_rClear (M := M1) (r := S + 8) hX.1.2.1.2.2.2.2
  obtain ⟨M3, c1, c2, clo, c3⟩ := chg a2 a4 (b2.mono (by omega) (by omega)) (Nat.le_refl B) (b3.up (by omega))
  have low : Low M M3 S := ⟨c2.trans a3.1, fun b hb => (clo b hb).trans (a3.2 b (by omega)).1⟩
  refine ⟨nI (cnt (bt (mJ M1 (S + 1 + 7) 0)) 64), M3, ?_⟩
  have hc : cl 45 [.ref S] M = some (some (.int (nI (cnt (bt (mJ M1 (S + 1 + 7) 0)) 64))), M3) := by
    show rn 45 0 [some (.ref S), none] [] M = _
    simp only [t45_0, t45_1, t45_4, t45_5, t45_8, t45_11, t45_12, t45_15, t45_18, t45_21, t45_24, t45_25, t45_26, t45_29, t45_32, t45_35, t45_36, t45_37, t45_40, K0, P0, P1, KH, SN.1, SN.2.1, SN.2.2.1, SN.2.2.2.1.1, SN.2.2.2.2.1, va_rf_s, ↓reduceIte, a1, cbn_v, cbn_i, KK a3.1, PK a3.1, c_bitCount, b1, KK b2.1, PK b2.1, c1]
  rcases c3 with ⟨d1, d2, d3⟩ | ⟨d1, d2, M4, M5, d3, d4, d5, d6⟩
  · exfalso
    have := cnt_le (bt (mJ M1 (S + 1 + 7) 0)) 64
    exact absurd d1 (nI_pos (by omega))
  · refine ⟨M5, low, hc, ?_, d6⟩
    show rn 133 0 [some (.ref (S + 148)), none] [] M3 = _
    simp only [t133_0, t133_1, KK c2, KK a3.1, MM.1, ↓reduceIte, d3, cbn_v]
    exact d5
