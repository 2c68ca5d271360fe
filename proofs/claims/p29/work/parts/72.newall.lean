/-! as in whole -/
def SlotP (N : SM) (S i : Nat) : Prop := mP N (S + 107) i = some (S + 120 + 14 * i) ∧ mK N (S + 120 + 14 * i) = (18, 0) ∧ mP N (S + 120 + 14 * i) 0 = some (S + 121 + 14 * i) ∧ StAt N (S + 121 + 14 * i) ∧ mI N (S + 120 + 14 * i) 1 = 0
theorem c_slotL {S : Nat} : ∀ d k, d + k = 2 → ∀ N, mS N = S + 120 + 14 * k → mK N S = (10, 0) → mP N S 2 = some (S + 107) → mK N (S + 107) = (4, 2) → (∀ i, i < k → SlotP N S i) →
      ∃ M', rn 0 69 [some (.ref S), some (.int (nI k))] [] N = some (none, M') ∧ mS M' = S + 148 ∧ mU M' ≤ mU N + 420 * d ∧ (∀ b, b < S + 120 → b ≠ S + 107 → S4 N M' b) ∧ mK M' (S + 107) = (4, 2) ∧ ∀ i, i < 2 → SlotP M' S i := by
  intro d
  induction d with
  | zero =>
    intro k hk N n1 n2 n3 n4 n5
    obtain rfl : k = 2 := by omega
    refine ⟨N, ?_, by rw [n1], by omega, fun b hb _ => ⟨rfl, rfl, rfl, rfl⟩, n4, n5⟩
    have e : ((2 : Int32) ≤ nI 2) = True := by decide
    rw [t0_69]
    simp only [t0_70, t0_71, t0_93, e, ↓reduceIte]
  | succ d ih =>
    intro k hk N n1' n2 n3 n4 n5
    have e : ((2 : Int32) ≤ nI k) = False := by
      rw [show (2 : Int32) = nI 2 from rfl, i_le (by decide) (by omega)]
      exact eq_false (by omega)
    obtain ⟨N1, hN1⟩ : ∃ N1, N1 = nw N (18, 0) 2 := ⟨_, rfl⟩
    have SN : mS N1 = S + 120 + 14 * k + 1 := by rw [hN1, mS_nw, n1']
    obtain ⟨M1, x1, x2, x3, x4, x5, x6, x7, x8⟩ := c_newSlot (M := N1) (a := S + 120 + 14 * k) SN (by rw [hN1, nw_K, if_pos n1'.symm])
    have hz : mI N1 (S + 120 + 14 * k) = fun _ => 0 := by rw [hN1, nw_I, if_pos n1'.symm]
    have sN : ∀ b, b < S + 120 + 14 * k → S4 N M1 b := fun b hb => (by rw [hN1] at x4; exact (S4.nw (by omega)).trans (x4 b hb))
    obtain ⟨M2, hM2⟩ : ∃ M2, M2 = sP M1 (S + 107) (va_up (mP M1 (S + 107)) k (some (S + 120 + 14 * k))) := ⟨_, rfl⟩
    have s12 : ∀ b, b ≠ S + 107 → S4 M1 M2 b := fun b hb => by rw [hM2]; exact S4.sP hb
    have p2 : mP M2 (S + 107) = va_up (mP N (S + 107)) k (some (S + 120 + 14 * k)) := by
      rw [hM2, mP_sP, if_pos rfl, (sN (S + 107) (by omega)).2.2.2]
    have k1 : mK M1 (S + 107) = (4, 2) := (sN (S + 107) (by omega)).1.trans n4
    have k2 : mK M2 (S + 107) = (4, 2) := by rw [hM2]; exact k1
    have sS : S4 N M2 S := (sN S (by omega)).trans (s12 S (by omega))
    obtain ⟨M', y1, y2, y3, y4, y5, y6⟩ := ih (k + 1) (by omega) M2 (by rw [hM2]; show mS M1 = _; rw [x2]; omega) (by rw [sS.1]; exact n2) (by rw [sS.2.2.2]; exact n3) k2 (by
      intro i hi
      by_cases q : i = k
      · subst q
        refine ⟨by rw [p2, va_up_self], ?_, ?_, ?_, ?_⟩
        · rw [(s12 (S + 120 + 14 * i) (by omega)).1]; exact x5
        · rw [(s12 (S + 120 + 14 * i) (by omega)).2.2.2, x6, show S + 121 + 14 * i = S + 120 + 14 * i + 1 by omega]
        · rw [show S + 121 + 14 * i = S + 120 + 14 * i + 1 by omega]
          exact x8.s4 (fun b h1 h2 => s12 b (by omega))
        · rw [(s12 (S + 120 + 14 * i) (by omega)).2.1, x7, hz]
      · obtain ⟨u1, u2, u3, u4, u5⟩ := n5 i (by omega)
        have t1 := (sN (S + 120 + 14 * i) (by omega)).trans (s12 (S + 120 + 14 * i) (by omega))
        refine ⟨by rw [p2, va_up_ne _ _ q]; exact u1, t1.1.trans u2, by rw [t1.2.2.2]; exact u3, (u4.s4 (fun b h1 h2 => sN b (by omega))).s4 (fun b h1 h2 => s12 b (by omega)), by rw [t1.2.1]; exact u5⟩)
    refine ⟨M', ?_, y2, ?_, fun b hb hb2 => ((sN b (by omega)).trans (s12 b hb2)).trans (y4 b hb hb2), y5, y6⟩
    · have hin : inR (nI k) 2 = True := i_inT (by omega) (by decide)
      have ao : (10 + aoC 4, 0) = ((18, 0) : Nat × Nat) := rfl
      rw [t0_69]
      simp only [t0_70, t0_71, t0_74, t0_75, t0_78, t0_79, t0_82, t0_83, e, n2, n3, va_rf_s, n1', ↓reduceIte]
      rw [← hN1, x1]
      simp only [cbn_v, t0_86, t0_87, t0_90, k1, x5, ao, hin, and_self, or_true, nI_c (show k < 2147483648 by omega), n1, ↓reduceIte]
      rw [← hM2]
      exact y1
    · have e2 : mU M2 = mU M1 := by rw [hM2]; rfl
      have e1 : mU N1 = mU N + 2 := by rw [hN1]; rfl
      omega
theorem ltc {b S c d : Nat} (h : b < S + c) (hc : c ≤ d) : b < S + d := by omega
theorem ltS {b S : Nat} (h : b < S) (c : Nat) : b < S + c := by omega
theorem neS' {b S : Nat} (h : b < S) : b ≠ S := by omega
theorem nek {S k : Nat} (hk : k ≠ 0) : S + k ≠ S := by omega
theorem nej {S j k : Nat} (hk : j ≠ k) : S + j ≠ S + k := by omega
theorem ltk {S k c : Nat} (h : k < c) : S + k < S + c := by omega
theorem rng {b S lo n c : Nat} (h2 : b < S + lo + n) (hc : lo + n ≤ c) : b < S + c := by omega
theorem rn0 {b S lo : Nat} (h1 : S + lo ≤ b) (h : lo ≠ 0) : b ≠ S := by omega
theorem rn7 {b S lo k : Nat} (h1 : S + lo ≤ b) (h : k < lo) : b ≠ S + k := by omega
theorem ltn {b S c : Nat} (h : b < S + c) {M : SM} (hS : mS M = S + c) : b < mS M := by omega
theorem of_new4 {M A : SM} {kd : Nat × Nat} {u b S c : Nat} (hS : mS M = S + c) (h : b < S + c) (h4 : ∀ b, b < S + c → S4 (nw M kd u) A b) : S4 M A b := (S4.nw (ltn h hS)).trans (h4 b h)
theorem sg {M A B : SM} {S f x : Nat} (hK : mK M S = (10, 0)) (hA : S4 M A S) (hB : B = sP A S (va_up (mP A S) f (some x))) : mK A S = (10, 0) ∧ mK B S = (10, 0) ∧ mS B = mS A ∧ mU B = mU A ∧ mP B S = va_up (mP M S) f (some x) ∧ ∀ b, b ≠ S → S4 A B b := by
  subst hB
  refine ⟨hA.1.trans hK, hA.1.trans hK, rfl, rfl, ?_, fun b hb => S4.sP hb⟩
  rw [mP_sP, if_pos rfl, hA.2.2.2]
/-- the stages of the constructor: a part made, put into its field -/
theorem sg1 {M : SM} {S : Nat} (hS : mS M = S + 1) (hK : mK M S = (10, 0)) : ∃ A B, cl 1 [.ref (S + 1)] (nw M (11, 0) 2) = some (none, A) ∧ mK A S = (10, 0) ∧ B = sP A S (va_up (mP A S) 0 (some (S + 1))) ∧ mK B S = (10, 0) ∧ mS B = S + 14 ∧ mU B ≤ mU M + 402 ∧ mP B S = va_up (mP M S) 0 (some (S + 1)) ∧ (∀ b, b < S → S4 M B b) ∧ StAt B (S + 1) ∧ INI B (S + 1) := by
  obtain ⟨A, a1, a2, a3, a4, a5, a6⟩ := c_newState (M := nw M (11, 0) 2) (a := S + 1) (by rw [mS_nw, hS]) (by rw [nw_K, if_pos hS.symm])
  obtain ⟨b1, b2, b3, b4, b5, b6⟩ := sg (B := sP A S (va_up (mP A S) 0 (some (S + 1)))) hK (of_new4 hS (by omega) a4) rfl
  refine ⟨A, _, a1, b1, rfl, b2, b3.trans a2, by rw [b4]; rw [mU_nw] at a3; omega, b5, fun b hb => (of_new4 hS (by omega) a4).trans (b6 b (by omega)), a5.s4 (fun b h1 h2 => b6 b (by omega)), a6.s4 (fun b h1 h2 => b6 b (by omega))⟩
theorem sg2 {M : SM} {S : Nat} (hS : mS M = S + 14) (hK : mK M S = (10, 0)) : ∃ A B, cl 8 [.ref (S + 14)] (nw M (15, 0) 3) = some (none, A) ∧ mK A S = (10, 0) ∧ B = sP A S (va_up (mP A S) 1 (some (S + 14))) ∧ mK B S = (10, 0) ∧ mS B = S + 107 ∧ mU B ≤ mU M + 3003 ∧ mP B S = va_up (mP M S) 1 (some (S + 14)) ∧ (∀ b, b < S + 14 → b ≠ S → S4 M B b) ∧ (mK B (S + 14) = (15, 0) ∧ mP B (S + 14) 0 = some (S + 15) ∧ mK B (S + 15) = (3, 7) ∧ mI B (S + 14) = (fun _ => 0) ∧ ∀ i, i < 7 → mP B (S + 15) i = some (S + 16 + 13 * i) ∧ StAt B (S + 16 + 13 * i)) := by
  obtain ⟨A, a1, a2, a3, a4, a5, a6, a7, a8, a9⟩ := c_newHist (M := nw M (15, 0) 3) (a := S + 14) (by rw [mS_nw, hS]) (by rw [nw_K, if_pos hS.symm])
  have z : mI A (S + 14) = fun _ => 0 := by rw [a8, nw_I, if_pos hS.symm]
  obtain ⟨b1, b2, b3, b4, b5, b6⟩ := sg (B := sP A S (va_up (mP A S) 1 (some (S + 14)))) hK (of_new4 hS (by omega) a4) rfl
  refine ⟨A, _, a1, b1, rfl, b2, b3.trans a2, by rw [b4]; rw [mU_nw] at a3; omega, b5, fun b hb h2 => (of_new4 hS hb a4).trans (b6 b h2), ?_, ?_, ?_, ?_, fun i hi => ⟨?_, (a9 i hi).2.s4 (fun b h1 h2 => b6 b (by omega))⟩⟩
  · rw [(b6 (S + 14) (by omega)).1]; exact a5
  · rw [(b6 (S + 14) (by omega)).2.2.2]; exact a6
  · rw [(b6 (S + 15) (by omega)).1]; exact a7
  · rw [(b6 (S + 14) (by omega)).2.1]; exact z
  · rw [(b6 (S + 15) (by omega)).2.2.2]; exact (a9 i hi).1
theorem sg3 {M : SM} {S : Nat} (hS : mS M = S + 107) (hK : mK M S = (10, 0)) : ∃ B, B = al M (4, 2) 2 S 2 (S + 107) ∧ mK B S = (10, 0) ∧ mS B = S + 108 ∧ mU B ≤ mU M + 2 ∧ mP B S = va_up (mP M S) 2 (some (S + 107)) ∧ (∀ b, b < S + 107 → b ≠ S → S4 M B b) ∧ mK B (S + 107) = (4, 2) :=
  ⟨_, rfl, by rw [al_K (by omega)]; exact hK, al_S hS, Nat.le_of_eq rfl, al_P (by omega), fun b hb h2 => al_4 (by omega) h2, al_Kx hS.symm⟩
theorem sg4 {M : SM} {S : Nat} (hS : mS M = S + 108) (hK : mK M S = (10, 0)) : ∃ A B, cl 9 [.ref (S + 108)] (nw M (16, 0) 5) = some (none, A) ∧ mK A S = (10, 0) ∧ B = sP A S (va_up (mP A S) 3 (some (S + 108))) ∧ mK B S = (10, 0) ∧ mS B = S + 111 ∧ mU B ≤ mU M + 87 ∧ mP B S = va_up (mP M S) 3 (some (S + 108)) ∧ (∀ b, b < S + 108 → b ≠ S → S4 M B b) ∧ (mK B (S + 109) = (17, 0) ∧ mP B (S + 109) 0 = some (S + 110) ∧ mK B (S + 110) = (1, 80) ∧ mI B (S + 109) = (fun _ => 0)) ∧ (mK B (S + 108) = (16, 0) ∧ mP B (S + 108) 0 = some (S + 109)) := by
  obtain ⟨A, a1, a2, a3, a4, r1, r2, a5, a6, a7, a8⟩ := c_newReader (M := nw M (16, 0) 5) (a := S + 108) (by rw [mS_nw, hS]) (by rw [nw_K, if_pos hS.symm])
  obtain ⟨b1, b2, b3, b4, b5, b6⟩ := sg (B := sP A S (va_up (mP A S) 3 (some (S + 108)))) hK (of_new4 hS (by omega) a4) rfl
  refine ⟨A, _, a1, b1, rfl, b2, b3.trans a2, by rw [b4]; rw [mU_nw] at a3; omega, b5, fun b hb h2 => (of_new4 hS hb a4).trans (b6 b h2), ⟨?_, ?_, ?_, ?_⟩, ?_, ?_⟩
  · rw [(b6 (S + 109) (by omega)).1]; exact a5
  · rw [(b6 (S + 109) (by omega)).2.2.2]; exact a6
  · rw [(b6 (S + 110) (by omega)).1]; exact a7
  · rw [(b6 (S + 109) (by omega)).2.1]; exact a8
  · rw [(b6 (S + 108) (by omega)).1]; exact r1
  · rw [(b6 (S + 108) (by omega)).2.2.2]; exact r2
theorem sg6 {M : SM} {S : Nat} (hS : mS M = S + 111) (hK : mK M S = (10, 0)) : ∃ A B, cl 3 [.ref (S + 111)] (nw M (13, 0) 7) = some (none, A) ∧ mK A S = (10, 0) ∧ B = sP A S (va_up (mP A S) 4 (some (S + 111))) ∧ mK B S = (10, 0) ∧ mS B = S + 117 ∧ mU B ≤ mU M + 121 ∧ mP B S = va_up (mP M S) 4 (some (S + 111)) ∧ (∀ b, b < S + 111 → b ≠ S → S4 M B b) ∧ RepAt B (S + 111) := by
  obtain ⟨A, a1, a2, a3, a4, a5, a6⟩ := c_newRep (M := nw M (13, 0) 7) (a := S + 111) (by rw [mS_nw, hS]) (by rw [nw_K, if_pos hS.symm])
  obtain ⟨b1, b2, b3, b4, b5, b6⟩ := sg (B := sP A S (va_up (mP A S) 4 (some (S + 111)))) hK (of_new4 hS (by omega) a4) rfl
  exact ⟨A, _, a1, b1, rfl, b2, b3.trans a2, by rw [b4]; rw [mU_nw] at a3; omega, b5, fun b hb h2 => (of_new4 hS hb a4).trans (b6 b h2), a5.s4 (fun b h1 h2 => b6 b (by omega))⟩
theorem sg7 {M : SM} {S : Nat} (hS : mS M = S + 117) (hK : mK M S = (10, 0)) : ∃ A B, cl 4 [.ref (S + 117)] (nw M (14, 0) 2) = some (none, A) ∧ mK A S = (10, 0) ∧ B = sP A S (va_up (mP A S) 5 (some (S + 117))) ∧ mK B S = (10, 0) ∧ mS B = S + 120 ∧ mU B ≤ mU M + 34 ∧ mP B S = va_up (mP M S) 5 (some (S + 117)) ∧ (∀ b, b < S + 117 → b ≠ S → S4 M B b) ∧ TreeAt B (S + 117) := by
  obtain ⟨A, a1, a2, a3, a4, a5⟩ := c_newTree (M := nw M (14, 0) 2) (a := S + 117) (by rw [mS_nw, hS]) (by rw [nw_K, if_pos hS.symm])
  obtain ⟨b1, b2, b3, b4, b5, b6⟩ := sg (B := sP A S (va_up (mP A S) 5 (some (S + 117)))) hK (of_new4 hS (by omega) a4) rfl
  exact ⟨A, _, a1, b1, rfl, b2, b3.trans a2, by rw [b4]; rw [mU_nw] at a3; omega, b5, fun b hb h2 => (of_new4 hS hb a4).trans (b6 b h2), a5.s4 (fun b h1 h2 => b6 b (by omega))⟩
theorem rg7 {b S i : Nat} (hi : i < 7) (h2 : b < S + 16 + 13 * i + 13) : b < S + 107 := by omega
theorem rg0 {b S i : Nat} (h1 : S + 16 + 13 * i ≤ b) : b ≠ S := by omega
theorem c_newAll {M : SM} {S : Nat} (hS : mS M = S + 1) (hK : mK M S = (10, 0)) : ∃ M', cl 0 [.ref S] M = some (none, M') ∧ mS M' = S + 148 ∧ mU M' ≤ mU M + 20000 ∧ (∀ b, b < S → S4 M M' b) ∧
    (mK M' S = (10, 0) ∧ mP M' S 0 = some (S + 1) ∧ mP M' S 1 = some (S + 14) ∧ mP M' S 2 = some (S + 107) ∧ mP M' S 3 = some (S + 108) ∧ mP M' (S + 108) 0 = some (S + 109) ∧ mP M' S 4 = some (S + 111) ∧ mP M' S 5 = some (S + 117)) ∧
    StAt M' (S + 1) ∧ INI M' (S + 1) ∧
    (mK M' (S + 14) = (15, 0) ∧ mP M' (S + 14) 0 = some (S + 15) ∧ mK M' (S + 15) = (3, 7) ∧ ∀ i, i < 7 → mP M' (S + 15) i = some (S + 16 + 13 * i) ∧ StAt M' (S + 16 + 13 * i)) ∧
    (mK M' (S + 107) = (4, 2) ∧ ∀ i, i < 2 → SlotP M' S i) ∧
    (mK M' (S + 109) = (17, 0) ∧ mP M' (S + 109) 0 = some (S + 110) ∧ mK M' (S + 110) = (1, 80)) ∧
    (mK M' (S + 108) = (16, 0) ∧ mP M' (S + 108) 0 = some (S + 109)) ∧ RepAt M' (S + 111) ∧ TreeAt M' (S + 117) ∧
    mI M' (S + 14) = (fun _ => 0) ∧ mI M' (S + 109) = (fun _ => 0) := by
  obtain ⟨A1, B1, a1, kA1, hB1, kB1, sB1, uB1, pB1, f1, st1, ini1⟩ := sg1 hS hK
  obtain ⟨A2, B2, a2, kA2, hB2, kB2, sB2, uB2, pB2, f2, b5, b6, b7, b8, b9⟩ := sg2 sB1 kB1
  obtain ⟨B3, hB3, kB3, sB3, uB3, pB3, f3, k107⟩ := sg3 sB2 kB2
  obtain ⟨A4, B4, a4, kA4, hB4, kB4, sB4, uB4, pB4, f4, ⟨c5, c6, c7, c8⟩, k110, p110⟩ := sg4 sB3 kB3
  obtain ⟨A6, B6, a6, kA6, hB6, kB6, sB6, uB6, pB6, f6', rep⟩ := sg6 sB4 kB4
  obtain ⟨A7, B7, a7, kA7, hB7, kB7, sB7, uB7, pB7, f7, tree⟩ := sg7 sB6 kB6
  have p7 : mP B7 S = va_up (va_up (va_up (va_up (va_up (va_up (mP M S) 0 (some (S + 1))) 1 (some (S + 14))) 2 (some (S + 107))) 3 (some (S + 108))) 4 (some (S + 111))) 5 (some (S + 117)) := by
    rw [pB7, pB6, pB4, pB3, pB2, pB1]
  have t6 := f7
  have t4 : ∀ b, b < S + 111 → b ≠ S → S4 B4 B7 b := fun b h1 h2 => (f6' b h1 h2).trans (t6 b (ltc h1 (by decide)) h2)
  have t3 : ∀ b, b < S + 108 → b ≠ S → S4 B3 B7 b := fun b h1 h2 => (f4 b h1 h2).trans (t4 b (ltc h1 (by decide)) h2)
  have t2 : ∀ b, b < S + 107 → b ≠ S → S4 B2 B7 b := fun b h1 h2 => (f3 b h1 h2).trans (t3 b (ltc h1 (by decide)) h2)
  have t1 : ∀ b, b < S + 14 → b ≠ S → S4 B1 B7 b := fun b h1 h2 => (f2 b h1 h2).trans (t2 b (ltc h1 (by decide)) h2)
  obtain ⟨M', y1, y2, y3, y4, y5, y6⟩ := c_slotL (S := S) 2 0 rfl B7 sB7 kB7 (by rw [p7]; simp [va_up]) (by rw [(t3 (S + 107) (ltk (by decide)) (nek (by decide))).1]; exact k107) (fun i hi => absurd hi (Nat.not_lt_zero i))
  have u1 : ∀ b, b < S + 14 → b ≠ S → S4 B1 M' b := fun b h1 h2 => (t1 b h1 h2).trans (y4 b (ltc h1 (by decide)) (Nat.ne_of_lt (Nat.lt_of_lt_of_le h1 (Nat.add_le_add_left (by decide) S))))
  have u2 : ∀ b, b < S + 107 → b ≠ S → S4 B2 M' b := fun b h1 h2 => (t2 b h1 h2).trans (y4 b (ltc h1 (by decide)) (Nat.ne_of_lt h1))
  have u4 : ∀ b, b < S + 111 → b ≠ S → b ≠ S + 107 → S4 B4 M' b := fun b h1 h2 h3 => (t4 b h1 h2).trans (y4 b (ltc h1 (by decide)) h3)
  have u6 : ∀ b, b < S + 117 → b ≠ S → b ≠ S + 107 → S4 B6 M' b := fun b h1 h2 h3 => (t6 b h1 h2).trans (y4 b (ltc h1 (by decide)) h3)
  have hSS := y4 S (Nat.lt_add_of_pos_right (by decide)) (Ne.symm (nek (by decide)))
  have pS : mP M' S = mP B7 S := hSS.2.2.2
  have hu : mU M' ≤ mU M + 20000 := by
    clear t1 t2 t3 t4 t6 u1 u2 u4 u6 y4 y6 f1 f2 f3 f4 f6' f7 b9 sB1 sB2 sB3 sB4 sB6 sB7 hS y2
    omega
  refine ⟨M', ?_, y2, hu, fun b hb => (f1 b hb).trans (u1 b (ltS hb _) (neS' hb)), ⟨hSS.1.trans kB7, ?_, ?_, ?_, ?_, ?_, ?_, ?_⟩, st1.s4 (fun b h1 h2 => u1 b (rng h2 (by decide)) (rn0 h1 (by decide))), ini1.s4 (fun b h1 h2 => u1 b (rng h2 (by decide)) (rn0 h1 (by decide))), ⟨?_, ?_, ?_, fun i hi => ⟨?_, ?_⟩⟩, ⟨y5, y6⟩, ⟨?_, ?_, ?_⟩, ⟨?_, ?_⟩, rep.s4 (fun b h1 h2 => u6 b (rng h2 (by decide)) (rn0 h1 (by decide)) (rn7 h1 (by decide))), tree.s4 (fun b h1 h2 => y4 b (rng h2 (by decide)) (rn7 h1 (by decide))), ?_, ?_⟩
  · show rn 0 0 [some (.ref S), none] [] M = _
    simp only [t0_0, t0_1, t0_4, t0_5, t0_8, t0_9, hS]
    rw [a1]
    simp only [cbn_v, t0_12, kA1, ↓reduceIte]
    rw [← hB1]
    simp only [t0_15, t0_16, t0_19, t0_20, sB1]
    rw [a2]
    simp only [cbn_v, t0_23, kA2, ↓reduceIte]
    rw [← hB2]
    have e2 : (2 : Int32).toNatClampNeg = 2 := by decide
    have c2' : ((0 : Int32) ≤ 2 ∧ (2 : Int32) ≤ 100000) = True := by decide
    have neS : (S = S + 107) = False := eq_false (Ne.symm (nek (by decide)))
    simp only [t0_26, t0_27, t0_28, t0_31, c2', e2, sB2, nw_K, neS, kB2, ↓reduceIte]
    have hB3' : sP (nw B2 (4, 2) 2) S (va_up (mP (nw B2 (4, 2) 2) S) 2 (some (S + 107))) = B3 := by rw [hB3]; rfl
    rw [hB3']
    simp only [t0_34, t0_35, t0_38, t0_39, sB3]
    rw [a4]
    simp only [cbn_v, t0_42, kA4, ↓reduceIte]
    rw [← hB4]
    simp only [t0_45, t0_46, t0_49, t0_50, sB4]
    rw [a6]
    simp only [cbn_v, t0_53, kA6, ↓reduceIte]
    rw [← hB6]
    simp only [t0_56, t0_57, t0_60, t0_61, sB6]
    rw [a7]
    simp only [cbn_v, t0_64, kA7, ↓reduceIte]
    rw [← hB7]
    simp only [t0_67, t0_68]
    exact y1
  · rw [pS, p7]; simp [va_up]
  · rw [pS, p7]; simp [va_up]
  · rw [pS, p7]; simp [va_up]
  · rw [pS, p7]; simp [va_up]
  · rw [(u4 (S + 108) (ltk (by decide)) (nek (by decide)) (nej (by decide))).2.2.2]; exact p110
  · rw [pS, p7]; simp [va_up]
  · rw [pS, p7]; simp [va_up]
  · rw [(u2 (S + 14) (ltk (by decide)) (nek (by decide))).1]; exact b5
  · rw [(u2 (S + 14) (ltk (by decide)) (nek (by decide))).2.2.2]; exact b6
  · rw [(u2 (S + 15) (ltk (by decide)) (nek (by decide))).1]; exact b7
  · rw [(u2 (S + 15) (ltk (by decide)) (nek (by decide))).2.2.2]; exact (b9 i hi).1
  · exact (b9 i hi).2.s4 (fun b h1 h2 => u2 b (rg7 hi h2) (rg0 h1))
  · rw [(u4 (S + 109) (ltk (by decide)) (nek (by decide)) (nej (by decide))).1]; exact c5
  · rw [(u4 (S + 109) (ltk (by decide)) (nek (by decide)) (nej (by decide))).2.2.2]; exact c6
  · rw [(u4 (S + 110) (ltk (by decide)) (nek (by decide)) (nej (by decide))).1]; exact c7
  · rw [(u4 (S + 108) (ltk (by decide)) (nek (by decide)) (nej (by decide))).1]; exact k110
  · rw [(u4 (S + 108) (ltk (by decide)) (nek (by decide)) (nej (by decide))).2.2.2]; exact p110
  · rw [(u2 (S + 14) (ltk (by decide)) (nek (by decide))).2.1]; exact b8
  · rw [(u4 (S + 109) (ltk (by decide)) (nek (by decide)) (nej (by decide))).2.1]; exact c8
