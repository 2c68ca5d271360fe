/-! the law's turns -/
theorem turn_100 {N : SM} {S sb L n R kd e : Nat} (h : R9 N S sb L n R) (hR : R + 40 ≤ 1000) (hkd : kd < 12) (he : 0 < n → e < n) (x : Int32) (jk9 jk13 jk14 jk15 jk16 jk17 jk18 jk19 jk20 jk21 : Option Value) : ∃ N' n' R' j13 j14 j15 j16 j17 j18 j19 j20 j21, R9 N' S sb L n' R' ∧ R' ≤ R + 40 ∧ N'.2.2 = N.2.2 ∧ (rn 87 100 [some (.ref sb), some (.ref S), some (.ref (S + 148)), some (.ref (S + 149)), some (.ref (S + 150)), some (.ref (S + 151)), some (.ref (S + 152)), some (.ref (S + 153)), some (.ref (S + 154)), jk9, some (.int (x)), some (.int (nI kd)), some (.int (nI e)), jk13, jk14, jk15, jk16, jk17, jk18, jk19, jk20, jk21] [] N = rn 87 872 [some (.ref sb), some (.ref S), some (.ref (S + 148)), some (.ref (S + 149)), some (.ref (S + 150)), some (.ref (S + 151)), some (.ref (S + 152)), some (.ref (S + 153)), some (.ref (S + 154)), jk9, some (.int (x)), some (.int (nI kd)), some (.int (nI e)), j13, j14, j15, j16, j17, j18, j19, j20, j21] [] N' ∨ rn 87 100 [some (.ref sb), some (.ref S), some (.ref (S + 148)), some (.ref (S + 149)), some (.ref (S + 150)), some (.ref (S + 151)), some (.ref (S + 152)), some (.ref (S + 153)), some (.ref (S + 154)), jk9, some (.int (x)), some (.int (nI kd)), some (.int (nI e)), jk13, jk14, jk15, jk16, jk17, jk18, jk19, jk20, jk21] [] N = rn 87 893 [some (.ref sb), some (.ref S), some (.ref (S + 148)), some (.ref (S + 149)), some (.ref (S + 150)), some (.ref (S + 151)), some (.ref (S + 152)), some (.ref (S + 153)), some (.ref (S + 154)), jk9, some (.int (x)), some (.int (nI kd)), some (.int (nI e)), j13, j14, j15, j16, j17, j18, j19, j20, j21] [] N') := by
  have n12 : n ≤ 12 := h.2.2.2.2.2.1
  have hF := Fq.refl N S
  obtain ⟨hb, hl, hlo, hrb, hrp, hrf, hrd, hwd, hti, hro⟩ := h.s
  have wlo : w12 (mJ N (S + 1 + 1) 1) := w12_of hlo n12
  obtain ⟨⟨kq, ke, kdd, kt, ko, ky, kp⟩, ⟨Q0, Q1, Q2⟩, En, De, Tr, k0⟩ := h.n hF
  obtain ⟨h1, h2, ⟨w, hw⟩, h4, h5, h6, h7, h8, h9, h10, h11, h12, h13⟩ := id h
  have one0 : ((1 : Int32) = 0) = False := by decide
  have z01 : ((0 : Int32) = 1) = False := by decide
  have hs : ((7 : Int32) ≤ nI kd) = (7 ≤ kd) := i_le (a := 7) (by decide) (by omega)
  by_cases q7 : kd < 7
  · have nq : ¬ 7 ≤ kd := by omega
    by_cases q12 : n = 12
    · subst q12
      refine ⟨N, 12, R, jk13, jk14, jk15, jk16, jk17, jk18, jk19, jk20, jk21, h, by omega, rfl, Or.inr ?_⟩
      have e12 : (nI 12 = 12) = True := by decide
      simp only [t87_100, t87_102, t87_104, t87_107, t87_108, t87_109, t87_110, t87_112, t87_115, hs, nq, kq, true_or, i03, and_self, z0, Q0, e12, ↓reduceIte, not_true_eq_false]
    · obtain ⟨N', j13, j14, j15, j16, j17, j18, j19, j20, j21, a1, a2, a3⟩ := actA h q7 (by omega) x (some (.int (nI e))) jk9 none none none jk13 jk14 jk15 jk16 jk17 jk18 jk19 jk20 jk21
      refine ⟨N', n + 1, R, j13, j14, j15, j16, j17, j18, j19, j20, j21, a1, by omega, a2, Or.inl (Eq.trans ?_ a3)⟩
      simp only [t87_100, t87_102, t87_104, hs, nq, ↓reduceIte]
  · obtain rfl | rfl | rfl | rfl | rfl : kd = 7 ∨ kd = 8 ∨ kd = 9 ∨ kd = 10 ∨ kd = 11 := by omega
    · rw [show nI 7 = (7 : Int32) from rfl]
      by_cases q0 : n = 0
      · subst q0
        have z00 : (nI 0 ≤ 0) = True := by decide
        refine ⟨N, 0, R, jk13, jk14, jk15, jk16, jk17, jk18, jk19, jk20, jk21, h, by omega, rfl, Or.inl ?_⟩
        simp only [t87_100, t87_102, t87_104, t87_107, t87_108, t87_109, t87_110, t87_112, t87_115, t87_118, t87_120, t87_121, t87_124, t87_125, t87_128, t87_130, t87_131, t87_132, t87_480, t87_482, t87_484, t87_487, t87_488, t87_489, t87_490, t87_618, t87_620, t87_622, t87_625, t87_626, t87_627, t87_628, t87_713, t87_715, t87_717, t87_720, t87_722, t87_724, t87_745, t87_747, t87_749, t87_752, t87_754, t87_755, t87_756, t87_757, t87_760, t87_825, t87_827, t87_829, z00, (by decide : ((7 : Int32) = 7) = True), (by decide : ((7 : Int32) = 8) = False), (by decide : ((7 : Int32) = 9) = False), (by decide : ((7 : Int32) = 10) = False), (by decide : ((7 : Int32) = 11) = False), (by decide : ((7 : Int32) ≤ 7) = True), not_true_eq_false, not_false_eq_true, ↓reduceIte, kq, true_or, i03, and_self, z0, Q0, or_self]
      · have z00 : (nI n ≤ 0) = False := eq_false (nI_nle (by omega) (by omega))
        obtain ⟨N', R', j13, j14, j15, a1, a2, a3, a4⟩ := act7 h (he (by omega)) x jk9 none none none jk13 jk14 jk15 jk16 jk17 jk18 jk19 jk20 jk21
        refine ⟨N', n, R', j13, j14, j15, jk16, jk17, jk18, jk19, jk20, jk21, a1, by omega, a3, Or.inl (Eq.trans ?_ a4)⟩
        simp only [t87_100, t87_102, t87_104, z00, (by decide : ((7 : Int32) = 7) = True), (by decide : ((7 : Int32) = 8) = False), (by decide : ((7 : Int32) = 9) = False), (by decide : ((7 : Int32) = 10) = False), (by decide : ((7 : Int32) = 11) = False), (by decide : ((7 : Int32) ≤ 7) = True), not_true_eq_false, not_false_eq_true, ↓reduceIte, kq, true_or, i03, and_self, z0, Q0]
    · rw [show nI 8 = (8 : Int32) from rfl]
      by_cases q0 : n = 0
      · subst q0
        have z00 : (nI 0 ≤ 0) = True := by decide
        refine ⟨N, 0, R, jk13, jk14, jk15, jk16, jk17, jk18, jk19, jk20, jk21, h, by omega, rfl, Or.inl ?_⟩
        simp only [t87_100, t87_102, t87_104, t87_107, t87_108, t87_109, t87_110, t87_112, t87_115, t87_118, t87_120, t87_121, t87_124, t87_125, t87_128, t87_130, t87_131, t87_132, t87_480, t87_482, t87_484, t87_487, t87_488, t87_489, t87_490, t87_618, t87_620, t87_622, t87_625, t87_626, t87_627, t87_628, t87_713, t87_715, t87_717, t87_720, t87_722, t87_724, t87_745, t87_747, t87_749, t87_752, t87_754, t87_755, t87_756, t87_757, t87_760, t87_825, t87_827, t87_829, z00, (by decide : ((8 : Int32) = 7) = False), (by decide : ((8 : Int32) = 8) = True), (by decide : ((8 : Int32) = 9) = False), (by decide : ((8 : Int32) = 10) = False), (by decide : ((8 : Int32) = 11) = False), (by decide : ((7 : Int32) ≤ 8) = True), not_true_eq_false, not_false_eq_true, ↓reduceIte, kq, true_or, i03, and_self, z0, Q0, or_self]
      · have z00 : (nI n ≤ 0) = False := eq_false (nI_nle (by omega) (by omega))
        obtain ⟨N', R', j13, a1, a2, a3, a4⟩ := act8 h (he (by omega)) x jk9 none none none jk13 jk14 jk15 jk16 jk17 jk18 jk19 jk20 jk21
        refine ⟨N', n, R', j13, jk14, jk15, jk16, jk17, jk18, jk19, jk20, jk21, a1, by omega, a3, Or.inl (Eq.trans ?_ a4)⟩
        simp only [t87_100, t87_102, t87_104, t87_480, t87_482, t87_484, z00, (by decide : ((8 : Int32) = 7) = False), (by decide : ((8 : Int32) = 8) = True), (by decide : ((8 : Int32) = 9) = False), (by decide : ((8 : Int32) = 10) = False), (by decide : ((8 : Int32) = 11) = False), (by decide : ((7 : Int32) ≤ 8) = True), not_true_eq_false, not_false_eq_true, ↓reduceIte, kq, true_or, i03, and_self, z0, Q0]
    · rw [show nI 9 = (9 : Int32) from rfl]
      obtain ⟨N', a1, a3, a4⟩ := act9 h hR x 9 (by decide) (some (.int (nI e))) jk9 none none none jk13 jk14 jk15 jk16 jk17 jk18 jk19 jk20 jk21
      refine ⟨N', n, R + 1, jk13, jk14, jk15, jk16, jk17, jk18, jk19, jk20, jk21, a1, by omega, a3, Or.inl (Eq.trans ?_ a4)⟩
      simp only [t87_100, t87_102, t87_104, t87_480, t87_482, t87_484, t87_618, t87_620, t87_622, (by decide : ((9 : Int32) = 7) = False), (by decide : ((9 : Int32) = 8) = False), (by decide : ((9 : Int32) = 9) = True), (by decide : ((9 : Int32) = 10) = False), (by decide : ((9 : Int32) = 11) = False), (by decide : ((7 : Int32) ≤ 9) = True), not_true_eq_false, not_false_eq_true, ↓reduceIte, kq, true_or, i03, and_self, z0, Q0]
    · rw [show nI 10 = (10 : Int32) from rfl]
      obtain ⟨N', a1, a3, a4⟩ := act9 h hR x 10 (by decide) (some (.int (nI e))) jk9 none none none jk13 jk14 jk15 jk16 jk17 jk18 jk19 jk20 jk21
      refine ⟨N', n, R + 1, jk13, jk14, jk15, jk16, jk17, jk18, jk19, jk20, jk21, a1, by omega, a3, Or.inl (Eq.trans ?_ a4)⟩
      simp only [t87_100, t87_102, t87_104, t87_480, t87_482, t87_484, t87_618, t87_620, t87_622, (by decide : ((10 : Int32) = 7) = False), (by decide : ((10 : Int32) = 8) = False), (by decide : ((10 : Int32) = 9) = False), (by decide : ((10 : Int32) = 10) = True), (by decide : ((10 : Int32) = 11) = False), (by decide : ((7 : Int32) ≤ 10) = True), not_true_eq_false, not_false_eq_true, ↓reduceIte, kq, true_or, i03, and_self, z0, Q0]
    · rw [show nI 11 = (11 : Int32) from rfl]
      obtain ⟨r, r2, hr⟩ := c_low (M := N) (x >>> (4 &&& 31)) (m := 2) (by decide) (by decide)
      have hr : cl 60 [.int (x >>> (4 &&& 31)), .int 2] N = some (some (.int (nI r)), N) := hr
      by_cases r0 : r = 0
      · subst r0
        obtain ⟨N', j13, j14, a1, a3, a4⟩ := act11a h x hr (some (.int (nI e))) jk9 none none none jk13 jk14 jk15 jk16 jk17 jk18 jk19 jk20 jk21
        refine ⟨N', n, 0, j13, j14, jk15, jk16, jk17, jk18, jk19, jk20, jk21, a1, by omega, a3, Or.inl (Eq.trans ?_ a4)⟩
        simp only [t87_100, t87_102, t87_104, t87_480, t87_482, t87_484, t87_618, t87_620, t87_622, t87_713, t87_715, t87_717, t87_720, t87_722, t87_724, (by decide : ((11 : Int32) = 7) = False), (by decide : ((11 : Int32) = 8) = False), (by decide : ((11 : Int32) = 9) = False), (by decide : ((11 : Int32) = 10) = False), (by decide : ((11 : Int32) = 11) = True), (by decide : ((7 : Int32) ≤ 11) = True), not_true_eq_false, not_false_eq_true, ↓reduceIte, kq, true_or, i03, and_self, z0, Q0, or_self]
      · have hr0 : (nI r = 0) = False := eq_false (nI_ne0 (by omega) (by omega))
        obtain ⟨N', R', j13, a1, a2, a3, a4⟩ := act11b h hR x (some (.int (nI e))) jk9 none none none jk13 jk14 jk15 jk16 jk17 jk18 jk19 jk20 jk21
        refine ⟨N', n, R', j13, jk14, jk15, jk16, jk17, jk18, jk19, jk20, jk21, a1, by omega, a3, Or.inl (Eq.trans ?_ a4)⟩
        simp only [t87_100, t87_102, t87_104, t87_480, t87_482, t87_484, t87_618, t87_620, t87_622, t87_713, t87_715, t87_717, t87_720, t87_722, t87_724, t87_745, t87_747, t87_749, t87_752, t87_754, t87_755, t87_756, t87_757, t87_760, hr, cbn_i, hr0, (by decide : ((11 : Int32) = 7) = False), (by decide : ((11 : Int32) = 8) = False), (by decide : ((11 : Int32) = 9) = False), (by decide : ((11 : Int32) = 10) = False), (by decide : ((11 : Int32) = 11) = True), (by decide : ((7 : Int32) ≤ 11) = True), not_true_eq_false, not_false_eq_true, ↓reduceIte, kq, true_or, i03, and_self, z0, Q0, or_self]
theorem turn_61 {N : SM} {S sb L n R t : Nat} (h : R9 N S sb L n R) (hL : L ≤ 260) (hR : R + 40 ≤ 1000) (ht : t < 24) (jk10 jk11 jk12 jk13 jk14 jk15 jk16 jk17 jk18 jk19 jk20 jk21 : Option Value) : ∃ N' n' R' j10 j11 j12 j13 j14 j15 j16 j17 j18 j19 j20 j21, R9 N' S sb L n' R' ∧ R' ≤ R + 40 ∧ mS N' ≤ mS N + 1 ∧ mU N' ≤ mU N + 12 ∧ rn 87 61 [some (.ref sb), some (.ref S), some (.ref (S + 148)), some (.ref (S + 149)), some (.ref (S + 150)), some (.ref (S + 151)), some (.ref (S + 152)), some (.ref (S + 153)), some (.ref (S + 154)), some (.int (nI t)), jk10, jk11, jk12, jk13, jk14, jk15, jk16, jk17, jk18, jk19, jk20, jk21] [] N = rn 87 893 [some (.ref sb), some (.ref S), some (.ref (S + 148)), some (.ref (S + 149)), some (.ref (S + 150)), some (.ref (S + 151)), some (.ref (S + 152)), some (.ref (S + 153)), some (.ref (S + 154)), some (.int (nI t)), j10, j11, j12, j13, j14, j15, j16, j17, j18, j19, j20, j21] [] N' := by
  have n12 : n ≤ 12 := h.2.2.2.2.2.1
  have hF := Fq.refl N S
  obtain ⟨hb, hl, hlo, hrb, hrp, hrf, hrd, hwd, hti, hro⟩ := h.s
  have wlo : w12 (mJ N (S + 1 + 1) 1) := w12_of hlo n12
  obtain ⟨⟨kq, ke, kdd, kt, ko, ky, kp⟩, ⟨Q0, Q1, Q2⟩, En, De, Tr, k0⟩ := h.n hF
  obtain ⟨h1, h2, ⟨w, hw⟩, h4, h5, h6, h7, h8, h9, h10, h11, h12, h13⟩ := id h
  have one0 : ((1 : Int32) = 0) = False := by decide
  have z01 : ((0 : Int32) = 1) = False := by decide
  obtain ⟨x, hx⟩ := c_cell (M := N) (b := sb) (k := t) h4.2 hL (by omega)
  obtain ⟨k, hk, hl1⟩ := c_low (M := N) x (m := 12) (by decide) (by decide)
  have hl1 : cl 60 [.int x, .int 12] N = some (some (.int (nI k)), N) := hl1
  obtain ⟨e, he, s1⟩ : ∃ e, (0 < n → e < n) ∧ rn 87 61 [some (.ref sb), some (.ref S), some (.ref (S + 148)), some (.ref (S + 149)), some (.ref (S + 150)), some (.ref (S + 151)), some (.ref (S + 152)), some (.ref (S + 153)), some (.ref (S + 154)), some (.int (nI t)), jk10, jk11, jk12, jk13, jk14, jk15, jk16, jk17, jk18, jk19, jk20, jk21] [] N = rn 87 100 [some (.ref sb), some (.ref S), some (.ref (S + 148)), some (.ref (S + 149)), some (.ref (S + 150)), some (.ref (S + 151)), some (.ref (S + 152)), some (.ref (S + 153)), some (.ref (S + 154)), some (.int (nI t)), some (.int (x)), some (.int (nI k)), some (.int (nI e)), jk13, jk14, jk15, jk16, jk17, jk18, jk19, jk20, jk21] [] N := by
    by_cases q0 : n = 0
    · subst q0
      refine ⟨0, fun h => absurd h (by decide), ?_⟩
      have z00 : nI 0 = 0 := rfl
      rw [z00]
      rw [z00] at Q0
      simp only [t87_61, t87_62, t87_64, t87_67, t87_69, t87_71, t87_73, t87_76, t87_78, t87_79, t87_80, t87_81, t87_84, t87_85, t87_88, t87_90, t87_91, t87_92, t87_93, t87_94, t87_95, t87_98, hx, cbn_i, hl1, kq, true_or, i03, and_self, z0, Q0, ↓reduceIte, not_true_eq_false]
    · obtain ⟨e, he, hl2⟩ := c_low (M := N) (x >>> (4 &&& 31)) (m := n) (by omega) (by omega)
      have z00 : (nI n = 0) = False := eq_false (nI_ne0 (by omega) (by omega))
      refine ⟨e, fun _ => he, ?_⟩
      simp only [t87_61, t87_62, t87_64, t87_67, t87_69, t87_71, t87_73, t87_76, t87_78, t87_79, t87_80, t87_81, t87_84, t87_85, t87_88, t87_90, t87_91, t87_92, t87_93, t87_94, t87_95, t87_98, hx, cbn_i, hl1, hl2, kq, true_or, i03, and_self, z0, Q0, z00, ↓reduceIte, not_false_eq_true]
  obtain ⟨N', n', R', j13, j14, j15, j16, j17, j18, j19, j20, j21, a1, a2, a3, a4⟩ := turn_100 (e := e) h hR hk he x (some (.int (nI t))) jk13 jk14 jk15 jk16 jk17 jk18 jk19 jk20 jk21
  have eS : mS N' = mS N := congrArg (fun z => z.2.2.1) a3
  have eU : mU N' = mU N := congrArg (fun z => z.2.2.2) a3
  rcases a4 with a4 | a4
  · obtain ⟨M', b1, b2, b3, b4⟩ := same_ok a1
    refine ⟨M', n', R', some (.int x), some (.int (nI k)), some (.int (nI e)), j13, j14, j15, j16, j17, j18, j19, j20, j21, b2, a2, by omega, by omega, s1.trans (a4.trans ?_)⟩
    have kS : mK N' S = (10, 0) := by rw [KK a3]; exact k0
    simp only [t87_872, t87_873, t87_874, t87_875, t87_877, t87_879, t87_881, t87_883, t87_885, t87_888, b1, cbn_i, one0, ↓reduceIte, not_false_eq_true]
  · exact ⟨N', n', R', some (.int x), some (.int (nI k)), some (.int (nI e)), j13, j14, j15, j16, j17, j18, j19, j20, j21, a1, a2, by omega, by omega, s1.trans a4⟩
theorem law_loop {S sb L : Nat} (hL : L ≤ 260) : ∀ m t, m + t = 24 → ∀ (N : SM) (n R : Nat) (jk10 jk11 jk12 jk13 jk14 jk15 jk16 jk17 jk18 jk19 jk20 jk21 : Option Value), R9 N S sb L n R → R ≤ 40 * t → ∃ M', rn 87 54 [some (.ref sb), some (.ref S), some (.ref (S + 148)), some (.ref (S + 149)), some (.ref (S + 150)), some (.ref (S + 151)), some (.ref (S + 152)), some (.ref (S + 153)), some (.ref (S + 154)), some (.int (nI t)), jk10, jk11, jk12, jk13, jk14, jk15, jk16, jk17, jk18, jk19, jk20, jk21] [] N = some (some (.int 1), M') ∧ mS M' ≤ mS N + m ∧ mU M' ≤ mU N + 12 * m := by
  intro m
  induction m with
  | zero =>
    intro t ht N n R jk10 jk11 jk12 jk13 jk14 jk15 jk16 jk17 jk18 jk19 jk20 jk21 h hR
    obtain rfl : t = 24 := by omega
    refine ⟨N, ?_, Nat.le_refl _, Nat.le_refl _⟩
    have e24 : ((24 : Int32) ≤ nI 24) = True := by decide
    rw [t87_54]
    simp only [t87_56, t87_58, t87_899, t87_900, e24, ↓reduceIte, or_true]
  | succ m ih =>
    intro t ht N n R jk10 jk11 jk12 jk13 jk14 jk15 jk16 jk17 jk18 jk19 jk20 jk21 h hR
    obtain ⟨N', n', R', j10, j11, j12, j13, j14, j15, j16, j17, j18, j19, j20, j21, a1, a2, a3, a4, a5⟩ := turn_61 (t := t) h hL (by omega) (by omega) jk10 jk11 jk12 jk13 jk14 jk15 jk16 jk17 jk18 jk19 jk20 jk21
    obtain ⟨M', b1, b2, b3⟩ := ih (t + 1) (by omega) N' n' R' j10 j11 j12 j13 j14 j15 j16 j17 j18 j19 j20 j21 a1 (by omega)
    refine ⟨M', ?_, by omega, by omega⟩
    have e24 : ((24 : Int32) ≤ nI t) = (24 ≤ t) := i_le (a := 24) (by decide) (by omega)
    have nle : ¬ 24 ≤ t := by omega
    rw [t87_54]
    simp only [t87_56, t87_58, e24, nle, ↓reduceIte]
    rw [a5]
    simp only [t87_893, t87_896, n1]
    exact b1
