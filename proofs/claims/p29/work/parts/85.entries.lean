/-! the law's comparison: entries -/
theorem w12_of {x : Int64} {n : Nat} (h : ∀ k, bt x k = true → k < n) (n12 : n ≤ 12) : w12 x := fun k hk => by have := h k hk; omega
theorem orpB_w {g : Nat → Int64} {n : Nat} {x : Int64} (n12 : n ≤ 12) : w12 (orpB g n x) := w12_and (w12_mk n12)
/-- what the comparison stands on -/
def S9 (M : SM) (S n R : Nat) : Prop :=
  (∀ e, e < n → ∀ k, bt (mJ M (S + 1 + 1 + 4) e) k = true → k < e) ∧ (∀ e, e < n → mJ M (S + 1 + 1 + 5) e = orL (mJ M (S + 1 + 1 + 4) e) (mJ M (S + 1 + 1 + 5)) e) ∧ (∀ k, bt (mJ M (S + 1 + 1) 1) k = true → k < n) ∧
  RoB (mI M (S + 1 + 7 + 1)) n ∧ (∀ e, bt (mJ M (S + 1 + 7) 0) e = (decide (e < n) && !decide (mI M (S + 1 + 7 + 1) e = -6))) ∧ (∀ e, bt (mJ M (S + 1 + 7) 1) e = (decide (e < n) && !decide (mI M (S + 1 + 7 + 2) e ≤ 0))) ∧
  mI M (S + 1 + 7) 2 = nI R ∧ mI M (S + 1 + 7) 3 = nI (wdN (mI M (S + 1 + 7 + 1)) n R) ∧ TI (mI M (S + 1 + 7 + 4)) (mI M (S + 1 + 7 + 5)) ∧ (∀ e, e < n → mI M (S + 1 + 7 + 1) e = -6 ∨ ∃ i, i < R ∧ mI M (S + 1 + 7 + 1) e = nI i)
theorem R9.s {M : SM} {S sb L n R : Nat} (h : R9 M S sb L n R) : S9 M S n R := by
  obtain ⟨w, hw⟩ := h.2.2.1
  exact SR_dat hw (by have := h.2.2.2.2.2.2.1; omega)
/-- the law's rows in a memory behind questions -/
theorem R9.n {M N : SM} {S sb L n R : Nat} (h : R9 M S sb L n R) (hF : Fq M N S) :
    (mK N (S + 148) = (1, 3) ∧ mK N (S + 149) = (1, 60) ∧ mK N (S + 150) = (1, 12) ∧ mK N (S + 151) = (1, 12) ∧ mK N (S + 152) = (1, 12) ∧ mK N (S + 153) = (1, 60) ∧ mK N (S + 154) = (1, 3)) ∧
    QR (mI N (S + 148)) n R (mJ M (S + 1 + 1) 1) ∧ EnR (mI N (S + 149)) (mI M (S + 1 + 1 + 1)) (mI M (S + 1 + 1 + 2)) (mI M (S + 1 + 1 + 3)) (mI M (S + 1 + 7 + 1)) (mI M (S + 1 + 7 + 2)) n ∧ DeR (mI N (S + 150)) (mJ M (S + 1 + 1 + 4)) n ∧ TrR (mI N (S + 151)) (mI M (S + 1 + 7 + 4)) (mI M (S + 1 + 7 + 5)) ∧ mK N S = (10, 0) := by
  obtain ⟨g0, g1, g2, g3, g4, g5, g6, g7, g8, g9, g10, g11, g12, g13, g14, g15, g16⟩ := hF.rows
  obtain ⟨h1, h2, h3, h4, h5, h6, h7, h8, h9, h10, h11, h12, h13⟩ := h.q hF
  rw [g12, g5] at h10
  rw [g13, g0, g1, g2, g8, g9] at h11
  rw [g14, g3] at h12
  rw [g15, g10, g11] at h13
  obtain ⟨a1, a2, a3, a4, a5, a6, a7, a8⟩ := h5
  exact ⟨⟨a1, a2, a3, a4, a5, a6, a7⟩, by rw [g12]; exact h10, by rw [g13]; exact h11, by rw [g14]; exact h12, by rw [g15]; exact h13, h1.1.1⟩
theorem e_lean {M N : SM} {S sb L n R k : Nat} (h : R9 M S sb L n R) (hF : Fq M N S) (hk : k < n) (jk8 jk9 jk10 jk11 jk12 jk13 jk14 jk15 jk16 jk17 jk18 jk19 jk20 jk21 jk22 jk23 : Option Value) : rn 69 30 [some (.ref S), some (.ref (S + 148)), some (.ref (S + 149)), some (.ref (S + 150)), some (.ref (S + 151)), some (.ref (S + 152)), some (.ref (S + 153)), some (.ref (S + 154)), jk8, jk9, jk10, jk11, jk12, jk13, some (.int (nI k)), jk15, jk16, jk17, jk18, jk19, jk20, jk21, jk22, jk23] [] N = rn 69 80 [some (.ref S), some (.ref (S + 148)), some (.ref (S + 149)), some (.ref (S + 150)), some (.ref (S + 151)), some (.ref (S + 152)), some (.ref (S + 153)), some (.ref (S + 154)), jk8, jk9, jk10, jk11, jk12, jk13, some (.int (nI k)), some (.int (nI (5 * k))), some (.int (nI (cnt (fun j => bt (mJ M (S + 1 + 1 + 5) j) k) n))), some (.int (nI n)), jk18, jk19, jk20, jk21, jk22, jk23] [] N := by
  have n12 : n ≤ 12 := h.2.2.2.2.2.1
  obtain ⟨hb, hl, hlo, hrb, hrp, hrf, hrd, hwd, hti, hro⟩ := h.s
  have wlo : w12 (mJ M (S + 1 + 1) 1) := w12_of hlo n12
  obtain ⟨⟨kq, ke, kd, kt, ko, ky, kp⟩, ⟨Q0, Q1, Q2⟩, En, De, Tr, k0⟩ := h.n hF
  have one0 : ((1 : Int32) = 0) = False := by decide
  have z01 : ((0 : Int32) = 1) = False := by decide
  have lnk : ∀ x, x ≤ 12 → (nI n ≤ nI x) = (n ≤ x) := fun x hx => lE (by omega) (by omega)
  have lp : ∀ j, j ≤ n → rn 69 50 [some (.ref S), some (.ref (S + 148)), some (.ref (S + 149)), some (.ref (S + 150)), some (.ref (S + 151)), some (.ref (S + 152)), some (.ref (S + 153)), some (.ref (S + 154)), jk8, jk9, jk10, jk11, jk12, jk13, some (.int (nI k)), some (.int (nI (5 * k))), some (.int (nI (cnt (fun j => bt (mJ M (S + 1 + 1 + 5) j) k) j))), some (.int (nI j)), jk18, jk19, jk20, jk21, jk22, jk23] [] N = rn 69 80 [some (.ref S), some (.ref (S + 148)), some (.ref (S + 149)), some (.ref (S + 150)), some (.ref (S + 151)), some (.ref (S + 152)), some (.ref (S + 153)), some (.ref (S + 154)), jk8, jk9, jk10, jk11, jk12, jk13, some (.int (nI k)), some (.int (nI (5 * k))), some (.int (nI (cnt (fun j => bt (mJ M (S + 1 + 1 + 5) j) k) n))), some (.int (nI n)), jk18, jk19, jk20, jk21, jk22, jk23] [] N := by
    refine loopB ?_ ?_
    · rw [t69_50]
      simp only [t69_52, t69_53, t69_54, t69_55, kq, true_or, i03, and_self, ↓reduceIte, z0, Q0, lnk n n12, Nat.le_refl]
    · intro j hj ih
      have hle : ¬ n ≤ j := by omega
      have hln := c_leans3 kd n12 hj De hb hl
      have wl : w12 (mJ M (S + 1 + 1 + 5) j) := w12_of (fun i hi => Nat.lt_trans (ln_b hb hl j hj i hi) hj) n12
      rw [t69_50]
      cases hq : bt (mJ M (S + 1 + 1 + 5) j) k with
      | true =>
        have hc : cnt (fun j => bt (mJ M (S + 1 + 1 + 5) j) k) (j + 1) = cnt (fun j => bt (mJ M (S + 1 + 1 + 5) j) k) j + 1 := by
          show _ + (if bt (mJ M (S + 1 + 1 + 5) j) k = true then 1 else 0) = _
          rw [if_pos hq]
        rw [hc] at ih
        simp only [t69_52, t69_53, t69_54, t69_55, t69_58, t69_60, t69_62, t69_63, t69_66, t69_68, t69_69, t69_70, t69_71, t69_72, t69_74, t69_77, kq, true_or, i03, and_self, ↓reduceIte, z0, Q0, lnk j (by omega), hle, hln, cbn_i, b3_read (show k < 32 by omega), b3_w wl, hq, n1]
        exact ih
      | false =>
        have hc : cnt (fun j => bt (mJ M (S + 1 + 1 + 5) j) k) (j + 1) = cnt (fun j => bt (mJ M (S + 1 + 1 + 5) j) k) j := by
          show _ + (if bt (mJ M (S + 1 + 1 + 5) j) k = true then 1 else 0) = _
          rw [if_neg (by rw [hq]; decide)]; rfl
        rw [hc] at ih
        simp only [t69_52, t69_53, t69_54, t69_55, t69_58, t69_60, t69_62, t69_63, t69_66, t69_68, t69_69, t69_70, t69_71, t69_72, t69_74, t69_77, kq, true_or, i03, and_self, ↓reduceIte, z0, Q0, lnk j (by omega), hle, hln, cbn_i, b3_read (show k < 32 by omega), b3_w wl, hq, Bool.false_eq_true, Int32.add_zero, n1]
        exact ih
  have h0 := lp 0 (Nat.zero_le _)
  have hle : ¬ n ≤ k := by omega
  have z : nI 0 = 0 := rfl
  rw [show cnt (fun j => bt (mJ M (S + 1 + 1 + 5) j) k) 0 = 0 from rfl, z] at h0
  rw [t69_30]
  simp only [t69_32, t69_33, t69_34, t69_35, t69_38, t69_39, t69_41, t69_42, t69_44, t69_45, t69_47, t69_48, kq, true_or, i03, and_self, ↓reduceIte, z0, Q0, lnk k (by omega), hle, x5]
  exact h0
theorem e_three {M N : SM} {S sb L n R k : Nat} (h : R9 M S sb L n R) (hF : Fq M N S) (hk : k < n) (jk8 jk9 jk10 jk11 jk12 jk13 jk14 jk15 jk16 jk17 jk18 jk19 jk20 jk21 jk22 jk23 : Option Value) : rn 69 80 [some (.ref S), some (.ref (S + 148)), some (.ref (S + 149)), some (.ref (S + 150)), some (.ref (S + 151)), some (.ref (S + 152)), some (.ref (S + 153)), some (.ref (S + 154)), some (.int (s32 (mJ M (S + 1 + 1) 1))), jk9, jk10, jk11, jk12, jk13, some (.int (nI k)), some (.int (nI (5 * k))), jk16, some (.int (nI n)), jk18, jk19, jk20, jk21, jk22, jk23] [] N = rn 69 133 [some (.ref S), some (.ref (S + 148)), some (.ref (S + 149)), some (.ref (S + 150)), some (.ref (S + 151)), some (.ref (S + 152)), some (.ref (S + 153)), some (.ref (S + 154)), some (.int (s32 (mJ M (S + 1 + 1) 1))), jk9, jk10, jk11, jk12, jk13, some (.int (nI k)), some (.int (nI (5 * k))), jk16, some (.int (if bt (mJ M (S + 1 + 1) 1) k = true then 1 else 0)), some (.int (3)), jk19, jk20, jk21, jk22, jk23] [] N := by
  have n12 : n ≤ 12 := h.2.2.2.2.2.1
  obtain ⟨hb, hl, hlo, hrb, hrp, hrf, hrd, hwd, hti, hro⟩ := h.s
  have wlo : w12 (mJ M (S + 1 + 1) 1) := w12_of hlo n12
  obtain ⟨⟨kq, ke, kd, kt, ko, ky, kp⟩, ⟨Q0, Q1, Q2⟩, En, De, Tr, k0⟩ := h.n hF
  have one0 : ((1 : Int32) = 0) = False := by decide
  have z01 : ((0 : Int32) = 1) = False := by decide
  have lnk : ∀ x, x ≤ 12 → (nI n ≤ nI x) = (n ≤ x) := fun x hx => lE (by omega) (by omega)
  obtain ⟨r0, r1, r2, r3, r4⟩ := En k hk
  have q0 := q_ent0 h hF hk
  have q1 := q_ent1 h hF hk
  have q2 := q_ent2 h hF hk
  have i5 : ∀ c, c < 5 → inR (nI (5 * k + c)) 60 = True := fun c hc => iT (by omega) (by decide)
  have cc : ∀ c, c < 5 → (nI (5 * k + c)).toNatClampNeg = 5 * k + c := fun c hc => cN (by omega)
  have p0 : nI (5 * k) + 0 = nI (5 * k + 0) := by rw [show (0 : Int32) = nI 0 from rfl, nI_add]
  have l03 : ((3 : Int32) ≤ 0) = False := by decide
  have l13 : ((3 : Int32) ≤ 1) = False := by decide
  have l23 : ((3 : Int32) ≤ 2) = False := by decide
  have l33 : ((3 : Int32) ≤ 3) = True := by decide
  have a01 : (0 : Int32) + 1 = 1 := by decide
  have a12 : (1 : Int32) + 1 = 2 := by decide
  have a23 : (2 : Int32) + 1 = 3 := by decide
  rw [show 5 * k = 5 * k + 0 from rfl] at r0
  have go : ∀ x17, rn 69 101 [some (.ref S), some (.ref (S + 148)), some (.ref (S + 149)), some (.ref (S + 150)), some (.ref (S + 151)), some (.ref (S + 152)), some (.ref (S + 153)), some (.ref (S + 154)), some (.int (s32 (mJ M (S + 1 + 1) 1))), jk9, jk10, jk11, jk12, jk13, some (.int (nI k)), some (.int (nI (5 * k))), jk16, x17, some (.int (0)), jk19, jk20, jk21, jk22, jk23] [] N = rn 69 133 [some (.ref S), some (.ref (S + 148)), some (.ref (S + 149)), some (.ref (S + 150)), some (.ref (S + 151)), some (.ref (S + 152)), some (.ref (S + 153)), some (.ref (S + 154)), some (.int (s32 (mJ M (S + 1 + 1) 1))), jk9, jk10, jk11, jk12, jk13, some (.int (nI k)), some (.int (nI (5 * k))), jk16, x17, some (.int (3)), jk19, jk20, jk21, jk22, jk23] [] N := by
    intro x17
    rw [t69_101]
    simp only [t69_103, t69_104, t69_107, t69_108, t69_110, t69_112, t69_115, t69_116, t69_118, t69_120, t69_121, t69_122, t69_125, t69_126, t69_127, t69_130, l03, ↓reduceIte, k0, q0, cbn_i, p0, ke, true_or, i5 0 (by decide), cc 0 (by decide), and_self, r0, a01]
    rw [t69_101]
    simp only [t69_103, t69_104, t69_107, t69_108, t69_110, t69_112, t69_115, t69_116, t69_118, t69_120, t69_121, t69_122, t69_125, t69_126, t69_127, t69_130, l13, ↓reduceIte, k0, q1, cbn_i, n1, ke, true_or, i5 1 (by decide), cc 1 (by decide), and_self, r1, a12]
    rw [t69_101]
    simp only [t69_103, t69_104, t69_107, t69_108, t69_110, t69_112, t69_115, t69_116, t69_118, t69_120, t69_121, t69_122, t69_125, t69_126, t69_127, t69_130, l23, ↓reduceIte, k0, q2, cbn_i, n2, ke, true_or, i5 2 (by decide), cc 2 (by decide), and_self, r2, a23]
    rw [t69_101]
    simp only [t69_103, t69_104, t69_107, t69_108, t69_110, t69_112, t69_115, t69_116, t69_118, t69_120, t69_121, t69_122, t69_125, t69_126, t69_127, t69_130, l33, ↓reduceIte]
  cases hx : bt (mJ M (S + 1 + 1) 1) k with
  | true =>
    simp only [t69_80, t69_82, t69_84, t69_85, t69_86, t69_87, t69_88, t69_91, t69_92, t69_95, t69_96, t69_98, t69_99, b3_read (show k < 32 by omega), b3_w wlo, hx, ↓reduceIte, not_true_eq_false]
    exact go _
  | false =>
    simp only [t69_80, t69_82, t69_84, t69_85, t69_86, t69_87, t69_88, t69_91, t69_92, t69_95, t69_96, t69_98, t69_99, b3_read (show k < 32 by omega), b3_w wlo, hx, Bool.false_eq_true, ↓reduceIte, z01, not_false_eq_true]
    exact go _
theorem e_more {M N : SM} {S sb L n R k : Nat} (h : R9 M S sb L n R) (hF : Fq M N S) (hk : k < n) (jk8 jk9 jk10 jk11 jk12 jk13 jk14 jk15 jk16 jk17 jk18 jk19 jk20 jk21 jk22 jk23 : Option Value) : rn 69 133 [some (.ref S), some (.ref (S + 148)), some (.ref (S + 149)), some (.ref (S + 150)), some (.ref (S + 151)), some (.ref (S + 152)), some (.ref (S + 153)), some (.ref (S + 154)), jk8, some (.int (s32 (orpB (mJ M (S + 1 + 1 + 5)) n (mJ M (S + 1 + 1) 1)))), jk10, jk11, jk12, jk13, some (.int (nI k)), some (.int (nI (5 * k))), some (.int (nI (cnt (fun j => bt (mJ M (S + 1 + 1 + 5) j) k) n))), some (.int (if bt (mJ M (S + 1 + 1) 1) k = true then 1 else 0)), jk18, jk19, jk20, jk21, jk22, jk23] [] N = rn 69 251 [some (.ref S), some (.ref (S + 148)), some (.ref (S + 149)), some (.ref (S + 150)), some (.ref (S + 151)), some (.ref (S + 152)), some (.ref (S + 153)), some (.ref (S + 154)), jk8, some (.int (s32 (orpB (mJ M (S + 1 + 1 + 5)) n (mJ M (S + 1 + 1) 1)))), jk10, jk11, jk12, jk13, some (.int (nI k)), some (.int (nI (5 * k))), some (.int (nI (cnt (fun j => bt (mJ M (S + 1 + 1 + 5) j) k) n))), some (.int (if bt (mJ M (S + 1 + 1) 1) k = true then 1 else 0)), jk18, jk19, jk20, jk21, jk22, jk23] [] N := by
  have n12 : n ≤ 12 := h.2.2.2.2.2.1
  obtain ⟨hb, hl, hlo, hrb, hrp, hrf, hrd, hwd, hti, hro⟩ := h.s
  have wlo : w12 (mJ M (S + 1 + 1) 1) := w12_of hlo n12
  obtain ⟨⟨kq, ke, kd, kt, ko, ky, kp⟩, ⟨Q0, Q1, Q2⟩, En, De, Tr, k0⟩ := h.n hF
  have one0 : ((1 : Int32) = 0) = False := by decide
  have z01 : ((0 : Int32) = 1) = False := by decide
  have lnk : ∀ x, x ≤ 12 → (nI n ≤ nI x) = (n ≤ x) := fun x hx => lE (by omega) (by omega)
  obtain ⟨r0, r1, r2, r3, r4⟩ := En k hk
  have q3 := q_ent3 h hF hk
  have q4 := q_ent4 h hF hk
  have q5 := q_ent5 h hF hk
  have q6 := q_ent6 h hF hk
  have q7 := q_ent7 h hF hk
  have q8 := q_ent8 h hF hk
  have q9 := q_deps h hF hk
  have wo : w12 (orpB (mJ M (S + 1 + 1 + 5)) n (mJ M (S + 1 + 1) 1)) := orpB_w n12
  have wn : w12 (mJ M (S + 1 + 1 + 4) k) := w12_of (fun i hi => Nat.lt_trans (hb k hk i hi) hk) n12
  have hbits := c_bits3 wn N
  have hrd4 : (s32 (orpB (mJ M (S + 1 + 1 + 5)) n (mJ M (S + 1 + 1) 1)) >>> (nI k &&& 31)) &&& 1 = if bt (orpB (mJ M (S + 1 + 1 + 5)) n (mJ M (S + 1 + 1) 1)) k = true then 1 else 0 := by rw [b3_read (show k < 32 by omega), b3_w wo]
  have h8 : cnt (fun k_1 => decide (k < k_1) && bt (mJ M (S + 1 + 1 + 5) k_1) k) n = cnt (fun j => bt (mJ M (S + 1 + 1 + 5) j) k) n := cnt_cong (fun j hj => by
    cases hq : bt (mJ M (S + 1 + 1 + 5) j) k with
    | false => rw [Bool.and_false]
    | true => rw [decide_eq_true (ln_b hb hl j hj k hq), Bool.true_and])
  rw [h8] at q8
  have i3 : inR (nI (5 * k + 3)) 60 = True := iT (by omega) (by decide)
  have i4 : inR (nI (5 * k + 4)) 60 = True := iT (by omega) (by decide)
  have c3 : (nI (5 * k + 3)).toNatClampNeg = 5 * k + 3 := cN (by omega)
  have c4 : (nI (5 * k + 4)).toNatClampNeg = 5 * k + 4 := cN (by omega)
  have ik : inR (nI k) 12 = True := iT (by omega) (by decide)
  have ck : (nI k).toNatClampNeg = k := cN (by omega)
  have dk := De k hk
  cases hx : bt (mJ M (S + 1 + 1) 1) k with
  | true =>
    rw [hx, if_pos rfl] at q3
    simp only [t69_133, t69_134, t69_136, t69_137, t69_140, t69_142, t69_145, t69_146, t69_149, t69_150, t69_153, t69_154, t69_156, t69_157, t69_160, t69_162, t69_164, t69_165, t69_166, t69_167, t69_170, t69_171, t69_173, t69_174, t69_177, t69_178, t69_180, t69_181, t69_182, t69_183, t69_186, t69_187, t69_189, t69_191, t69_194, t69_195, t69_197, t69_198, t69_199, t69_200, t69_203, t69_204, t69_206, t69_208, t69_211, t69_212, t69_214, t69_215, t69_218, t69_221, t69_222, t69_224, t69_226, t69_229, t69_231, t69_234, t69_235, t69_237, t69_240, t69_241, t69_243, t69_244, t69_245, t69_246, t69_249, t69_250, k0, q3, q4, q5, q6, q7, q8, q9, cbn_i, hrd4, ke, kd, true_or, i3, i4, ik, c3, c4, ck, and_self, ↓reduceIte, one0, not_true_eq_false, r3, r4, dk, hbits, n3, n4, s32_l wn, lg_cmp_eq]
  | false =>
    rw [hx, if_neg (by decide)] at q3
    simp only [t69_133, t69_134, t69_136, t69_137, t69_140, t69_142, t69_145, t69_146, t69_149, t69_150, t69_153, t69_154, t69_156, t69_157, t69_160, t69_162, t69_164, t69_165, t69_166, t69_167, t69_170, t69_171, t69_173, t69_174, t69_177, t69_178, t69_180, t69_181, t69_182, t69_183, t69_186, t69_187, t69_189, t69_191, t69_194, t69_195, t69_197, t69_198, t69_199, t69_200, t69_203, t69_204, t69_206, t69_208, t69_211, t69_212, t69_214, t69_215, t69_218, t69_221, t69_222, t69_224, t69_226, t69_229, t69_231, t69_234, t69_235, t69_237, t69_240, t69_241, t69_243, t69_244, t69_245, t69_246, t69_249, t69_250, k0, q3, q4, q5, q6, q7, q8, q9, cbn_i, hrd4, ke, kd, true_or, i3, i4, ik, c3, c4, ck, and_self, Bool.false_eq_true, ↓reduceIte, one0, not_true_eq_false, r3, r4, dk, hbits, n3, n4, s32_l wn, lg_cmp_eq]
theorem e_deep {M N : SM} {S sb L n R k : Nat} (h : R9 M S sb L n R) (hF : Fq M N S) (hk : k < n) (jk8 jk9 jk10 jk11 jk12 jk13 jk14 jk15 jk16 jk17 jk18 jk19 jk20 jk21 jk22 jk23 : Option Value) : ∃ N1, Fq M N1 S ∧ rn 69 251 [some (.ref S), some (.ref (S + 148)), some (.ref (S + 149)), some (.ref (S + 150)), some (.ref (S + 151)), some (.ref (S + 152)), some (.ref (S + 153)), some (.ref (S + 154)), some (.int (s32 (mJ M (S + 1 + 1) 1))), some (.int (s32 (orpB (mJ M (S + 1 + 1 + 5)) n (mJ M (S + 1 + 1) 1)))), jk10, jk11, jk12, jk13, some (.int (nI k)), jk15, jk16, some (.int (if bt (mJ M (S + 1 + 1) 1) k = true then 1 else 0)), jk18, jk19, jk20, jk21, jk22, jk23] [] N = rn 69 314 [some (.ref S), some (.ref (S + 148)), some (.ref (S + 149)), some (.ref (S + 150)), some (.ref (S + 151)), some (.ref (S + 152)), some (.ref (S + 153)), some (.ref (S + 154)), some (.int (s32 (mJ M (S + 1 + 1) 1))), some (.int (s32 (orpB (mJ M (S + 1 + 1 + 5)) n (mJ M (S + 1 + 1) 1)))), jk10, jk11, jk12, jk13, some (.int (nI k)), jk15, jk16, some (.int (if bt (mJ M (S + 1 + 1) 1) k = true then 1 else 0)), jk18, jk19, jk20, jk21, jk22, jk23] [] N1 := by
  have n12 : n ≤ 12 := h.2.2.2.2.2.1
  obtain ⟨hb, hl, hlo, hrb, hrp, hrf, hrd, hwd, hti, hro⟩ := h.s
  have wlo : w12 (mJ M (S + 1 + 1) 1) := w12_of hlo n12
  obtain ⟨⟨kq, ke, kd, kt, ko, ky, kp⟩, ⟨Q0, Q1, Q2⟩, En, De, Tr, k0⟩ := h.n hF
  have one0 : ((1 : Int32) = 0) = False := by decide
  have z01 : ((0 : Int32) = 1) = False := by decide
  have lnk : ∀ x, x ≤ 12 → (nI n ≤ nI x) = (n ≤ x) := fun x hx => lE (by omega) (by omega)
  obtain ⟨N1, v, q1, hF1, q2, q3⟩ := q_depth h hF hk
  have wo : w12 (orpB (mJ M (S + 1 + 1 + 5)) n (mJ M (S + 1 + 1) 1)) := orpB_w n12
  have wl : w12 (mJ M (S + 1 + 1 + 5) k) := w12_of (fun i hi => Nat.lt_trans (ln_b hb hl k hk i hi) hk) n12
  have hrd4 : (s32 (orpB (mJ M (S + 1 + 1 + 5)) n (mJ M (S + 1 + 1) 1)) >>> (nI k &&& 31)) &&& 1 = if bt (orpB (mJ M (S + 1 + 1 + 5)) n (mJ M (S + 1 + 1) 1)) k = true then 1 else 0 := by rw [b3_read (show k < 32 by omega), b3_w wo]
  have hob : bt (orpB (mJ M (S + 1 + 1 + 5)) n (mJ M (S + 1 + 1) 1)) k = (!decide (mJ M (S + 1 + 1 + 5) k &&& mJ M (S + 1 + 1) 1 = 0) && !bt (mJ M (S + 1 + 1) 1) k) := by
    unfold orpB
    rw [bt_and, bt_not _ (by omega), bt_mk _ _ _ (by omega), decide_eq_true hk, Bool.true_and]
  obtain ⟨⟨kq', ke', kd', kt', ko', ky', kp'⟩, -, En', De', Tr', k0'⟩ := h.n hF1
  have hd := c_depth3 kd' n12 hk De' hb hl
  have hln := c_leans3 kd' n12 hk De' hb hl
  have qw := q_wants h hF1 hk
  have ww : w12 ((mJ M (S + 1 + 1 + 5) k ||| bE k) &&& mJ M (S + 1 + 1) 1) := w12_and (w12_or wl (w12_bE (by omega)))
  have ek : (s32 (mJ M (S + 1 + 1 + 5) k) ||| e3 k) &&& s32 (mJ M (S + 1 + 1) 1) = s32 ((mJ M (S + 1 + 1 + 5) k ||| bE k) &&& mJ M (S + 1 + 1) 1) := by rw [e3_s (by omega), s32_or, s32_and]
  refine ⟨N1, hF1, ?_⟩
  cases hx : bt (mJ M (S + 1 + 1) 1) k with
  | true =>
    have hv := q3 (fun z => by rw [z.1] at hx; cases hx)
    rw [hv] at q1
    simp only [t69_251, t69_252, t69_254, t69_257, t69_259, t69_262, t69_264, t69_266, t69_267, t69_268, t69_269, t69_270, t69_273, t69_275, t69_278, t69_280, t69_281, t69_284, t69_287, t69_288, t69_290, t69_293, t69_295, t69_296, t69_299, t69_300, t69_302, t69_303, t69_304, t69_306, t69_307, t69_308, t69_309, t69_312, t69_313, k0, k0', q1, cbn_i, hln, qw, ek, ↓reduceIte, one0, not_true_eq_false, not_false_eq_true, s32_l ww, lg_cmp_eq]
  | false =>
    rw [hx, Bool.not_false, Bool.and_true] at hob
    by_cases hz : mJ M (S + 1 + 1 + 5) k &&& mJ M (S + 1 + 1) 1 = 0
    · have hv := q2 ⟨hx, hz⟩
      rw [hv] at q1
      rw [decide_eq_true hz, Bool.not_true] at hob
      rw [hob] at hrd4
      simp only [Bool.false_eq_true, ↓reduceIte] at hrd4
      simp only [t69_251, t69_252, t69_254, t69_257, t69_259, t69_262, t69_264, t69_266, t69_267, t69_268, t69_269, t69_270, t69_273, t69_275, t69_278, t69_280, t69_281, t69_284, t69_287, t69_288, t69_290, t69_293, t69_295, t69_296, t69_299, t69_300, t69_302, t69_303, t69_304, t69_306, t69_307, t69_308, t69_309, t69_312, t69_313, k0, k0', q1, cbn_i, hln, hd, hrd4, z01, qw, ek, Bool.false_eq_true, ↓reduceIte, one0, not_true_eq_false, not_false_eq_true, s32_l ww, lg_cmp_eq]
    · have hv := q3 (fun z => hz z.2)
      rw [hv] at q1
      rw [decide_eq_false hz, Bool.not_false] at hob
      rw [hob] at hrd4
      simp only [↓reduceIte] at hrd4
      simp only [t69_251, t69_252, t69_254, t69_257, t69_259, t69_262, t69_264, t69_266, t69_267, t69_268, t69_269, t69_270, t69_273, t69_275, t69_278, t69_280, t69_281, t69_284, t69_287, t69_288, t69_290, t69_293, t69_295, t69_296, t69_299, t69_300, t69_302, t69_303, t69_304, t69_306, t69_307, t69_308, t69_309, t69_312, t69_313, k0, k0', q1, cbn_i, hln, hrd4, qw, ek, Bool.false_eq_true, ↓reduceIte, one0, not_true_eq_false, not_false_eq_true, s32_l ww, lg_cmp_eq]
