/-! acts of the law: the replay begun anew, made to its end -/
theorem act11a {N : SM} {S sb L n R : Nat} (h : R9 N S sb L n R) (x : Int32) (hr : cl 60 [.int (x >>> (4 &&& 31)), .int 2] N = some (some (.int 0), N)) (x12 jk9 jk10 jk11 jk12 jk13 jk14 jk15 jk16 jk17 jk18 jk19 jk20 jk21 : Option Value) : ∃ N' j13 j14, R9 N' S sb L n 0 ∧ N'.2.2 = N.2.2 ∧ rn 87 745 [some (.ref sb), some (.ref S), some (.ref (S + 148)), some (.ref (S + 149)), some (.ref (S + 150)), some (.ref (S + 151)), some (.ref (S + 152)), some (.ref (S + 153)), some (.ref (S + 154)), jk9, some (.int (x)), some (.int (11)), x12, jk13, jk14, jk15, jk16, jk17, jk18, jk19, jk20, jk21] [] N = rn 87 872 [some (.ref sb), some (.ref S), some (.ref (S + 148)), some (.ref (S + 149)), some (.ref (S + 150)), some (.ref (S + 151)), some (.ref (S + 152)), some (.ref (S + 153)), some (.ref (S + 154)), jk9, some (.int (x)), some (.int (11)), x12, j13, j14, jk15, jk16, jk17, jk18, jk19, jk20, jk21] [] N' := by
  have n12 : n ≤ 12 := h.2.2.2.2.2.1
  have hF := Fq.refl N S
  obtain ⟨hb, hl, hlo, hrb, hrp, hrf, hrd, hwd, hti, hro⟩ := h.s
  have wlo : w12 (mJ N (S + 1 + 1) 1) := w12_of hlo n12
  obtain ⟨⟨kq, ke, kd, kt, ko, ky, kp⟩, ⟨Q0, Q1, Q2⟩, En, De, Tr, k0⟩ := h.n hF
  obtain ⟨h1, h2, ⟨w, hw⟩, h4, h5, h6, h7, h8, h9, h10, h11, h12, h13⟩ := id h
  have one0 : ((1 : Int32) = 0) = False := by decide
  have z01 : ((0 : Int32) = 1) = False := by decide
  have lnk : ∀ x, x ≤ 12 → (nI n ≤ nI x) = (n ≤ x) := fun x hx => lE (by omega) (by omega)
  have lp : ∀ k, k ≤ n → rn 87 769 [some (.ref sb), some (.ref S), some (.ref (S + 148)), some (.ref (S + 149)), some (.ref (S + 150)), some (.ref (S + 151)), some (.ref (S + 152)), some (.ref (S + 153)), some (.ref (S + 154)), jk9, some (.int (x)), some (.int (11)), x12, some (.int (nI (cnt (fun k => !decide (mI N (S + 1 + 7 + 1) k < 0)) k))), some (.int (nI k)), jk15, jk16, jk17, jk18, jk19, jk20, jk21] [] N = rn 87 804 [some (.ref sb), some (.ref S), some (.ref (S + 148)), some (.ref (S + 149)), some (.ref (S + 150)), some (.ref (S + 151)), some (.ref (S + 152)), some (.ref (S + 153)), some (.ref (S + 154)), jk9, some (.int (x)), some (.int (11)), x12, some (.int (nI (cnt (fun k => !decide (mI N (S + 1 + 7 + 1) k < 0)) n))), some (.int (nI n)), jk15, jk16, jk17, jk18, jk19, jk20, jk21] [] N := by
    refine loopB ?_ ?_
    · rw [t87_769]
      simp only [t87_771, t87_772, t87_773, t87_774, kq, true_or, i03, and_self, ↓reduceIte, z0, Q0, lnk n n12, Nat.le_refl]
    · intro k hk ih
      have hle : ¬ n ≤ k := by omega
      obtain ⟨r0, r1, r2, r3, r4⟩ := En k hk
      have i3 : inR (nI (5 * k + 3)) 60 = True := iT (by omega) (by decide)
      have c3 : (nI (5 * k + 3)).toNatClampNeg = 5 * k + 3 := cN (by omega)
      have hc : cnt (fun k => !decide (mI N (S + 1 + 7 + 1) k < 0)) (k + 1) = cnt (fun k => !decide (mI N (S + 1 + 7 + 1) k < 0)) k + if (!decide (mI N (S + 1 + 7 + 1) k < 0)) = true then 1 else 0 := rfl
      rw [t87_769]
      by_cases q : mI N (S + 1 + 7 + 1) k < 0
      · rw [decide_eq_true q, Bool.not_true, if_neg (by decide)] at hc
        have hc : cnt (fun k => !decide (mI N (S + 1 + 7 + 1) k < 0)) (k + 1) = cnt (fun k => !decide (mI N (S + 1 + 7 + 1) k < 0)) k := hc
        rw [hc] at ih
        simp only [t87_771, t87_772, t87_773, t87_774, t87_777, t87_779, t87_780, t87_781, t87_783, t87_784, t87_785, t87_786, t87_787, t87_790, t87_791, t87_794, t87_795, t87_796, t87_798, t87_801, kq, ke, true_or, i03, i3, c3, and_self, ↓reduceIte, z0, Q0, lnk k (by omega), hle, x5, n3, r3, q, Int32.add_zero, n1]
        exact ih
      · rw [decide_eq_false q, Bool.not_false, if_pos rfl] at hc
        rw [hc] at ih
        simp only [t87_771, t87_772, t87_773, t87_774, t87_777, t87_779, t87_780, t87_781, t87_783, t87_784, t87_785, t87_786, t87_787, t87_790, t87_791, t87_794, t87_795, t87_796, t87_798, t87_801, kq, ke, true_or, i03, i3, c3, and_self, ↓reduceIte, z0, Q0, lnk k (by omega), hle, x5, n3, r3, q, n1]
        exact ih
  have l0 := lp 0 (Nat.zero_le _)
  rw [show cnt (fun k => !decide (mI N (S + 1 + 7 + 1) k < 0)) 0 = 0 from rfl, show nI 0 = 0 from rfl] at l0
  have hcn : cnt (bt (mJ N (S + 1 + 7) 0)) 64 = cnt (fun k => !decide (mI N (S + 1 + 7 + 1) k < 0)) n := by
    rw [cnt_more (bt (mJ N (S + 1 + 7) 0)) (n := n) (m := 64) (by omega) (fun i i1 _ => by rw [hrp, decide_eq_false (by omega), Bool.false_and])]
    refine cnt_cong fun k hk => ?_
    rw [hrp, decide_eq_true hk, Bool.true_and]
    rcases hrb k hk with z | ⟨j, hj, z⟩
    · rw [z]; decide
    · have z1 : ¬ nI j < 0 := nI_pos (by omega)
      have z6 : ¬ nI j = -6 := fun e => z1 (by rw [e]; decide)
      rw [z, decide_eq_false z1, decide_eq_false z6]
  obtain ⟨M1, p, hc⟩ := pub_anew h1 h2
  have sM : ∀ b, b < S + 14 → Same N M1 b := fun b hb => p.2 b (by omega)
  have hwM := SR_same hw (fun b b1 b2 => sM b (by omega))
  have hcl := c_rClear (M := M1) (r := S + 1 + 7) ((h1.st p.1).2.1.2.2.2.2)
  have fC : Fr M1 (rClr M1 (S + 1 + 7)) (S + 2) (S + 14) := (Fr_rClr _ _).mono (by omega) (by omega)
  obtain ⟨M3, g1, g2⟩ := hc _ _ hcl rfl fC
  rw [(sM (S + 1 + 7) (by omega)).2, hcn] at g1
  obtain ⟨y1, y2, y3⟩ := aft_rows p fC g2
  have lI : ∀ b, b < S + 1 + 7 → mI M3 b = mI N b := fun b hb => by rw [(y2 b (by omega)).1, ((Fr_rClr M1 (S + 1 + 7)).2 b (by omega)).1]; exact (sM b (by omega)).1
  have lJ : ∀ b, b < S + 1 + 7 → mJ M3 b = mJ N b := fun b hb => by rw [(y2 b (by omega)).2, ((Fr_rClr M1 (S + 1 + 7)).2 b (by omega)).2]; exact (sM b (by omega)).2
  obtain ⟨N', a1, a2, a3⟩ := anew_fin (C1 := M1) h g2.1 g2.2.2 (fun b hb => y2 b hb) (k_anew hwM.1 hwM.2) (by rw [lI _ (by omega), lI _ (by omega), lI _ (by omega)]; exact h8) (by rw [(y1 _ (by omega)).1]; exact Q0) (by rw [(y1 _ (by omega)).1, lJ _ (by omega)]; exact Q2)
    ⟨_, _, by rw [(y1 _ (by omega)).1, lI _ (by omega), lI _ (by omega), lI _ (by omega)]; exact h11⟩ (by rw [(y1 _ (by omega)).1, lJ _ (by omega)]; exact h12)
  refine ⟨N', some (.int (nI (cnt (fun k => !decide (mI N (S + 1 + 7 + 1) k < 0)) n))), some (.int (nI n)), a2, a3, ?_⟩
  simp only [t87_745, t87_747, t87_749, t87_752, t87_754, t87_755, t87_756, t87_757, t87_760, t87_763, t87_764, t87_766, t87_767, ↓reduceIte, not_true_eq_false, hr, cbn_i]
  rw [l0]
  simp only [t87_804, t87_805, t87_808, t87_810, t87_813, t87_814, t87_815, t87_816, t87_817, t87_819, t87_822, KK g2.1, k0, g1, a1, cbn_i, cbn_v, ↓reduceIte, not_true_eq_false]
/-- the law's rounds beside the class's -/
theorem l_rounds {N : SM} {S sb L n R j : Nat} (h : R9 N S sb L n R) (hR : R + 40 ≤ 1000) (j40 : j ≤ 40) (j1 : ∀ i, i < j → ¬ rdM (itR N (S + 1 + 7) (S + 1 + 1) n i) (S + 1 + 7) (S + 1 + 1) n = 0) (j2 : rdM (itR N (S + 1 + 7) (S + 1 + 1) n j) (S + 1 + 7) (S + 1 + 1) n = 0) (x : Int32) (x12 jk9 jk10 jk11 jk12 jk13 jk14 jk15 jk16 jk17 jk18 jk19 jk20 jk21 : Option Value) :
    ∀ m i, m + i = j → ∀ Q : SM, Q.2.2 = N.2.2 → (∀ b, b ≠ S + 148 → b ≠ S + 149 → b ≠ S + 151 → Same N Q b) →
      QR (mI Q (S + 148)) n (R + i) (mJ N (S + 1 + 1) 1) → EnR (mI Q (S + 149)) (mI N (S + 1 + 1 + 1)) (mI N (S + 1 + 1 + 2)) (mI N (S + 1 + 1 + 3)) (mI (itR N (S + 1 + 7) (S + 1 + 1) n i) (S + 1 + 7 + 1)) (mI (itR N (S + 1 + 7) (S + 1 + 1) n i) (S + 1 + 7 + 2)) n → TrR (mI Q (S + 151)) (mI (itR N (S + 1 + 7) (S + 1 + 1) n i) (S + 1 + 7 + 4)) (mI (itR N (S + 1 + 7) (S + 1 + 1) n i) (S + 1 + 7 + 5)) → Six (mI (itR N (S + 1 + 7) (S + 1 + 1) n i) (S + 1 + 7 + 5)) →
      ∃ Q', rn 87 835 [some (.ref sb), some (.ref S), some (.ref (S + 148)), some (.ref (S + 149)), some (.ref (S + 150)), some (.ref (S + 151)), some (.ref (S + 152)), some (.ref (S + 153)), some (.ref (S + 154)), jk9, some (.int (x)), some (.int (11)), x12, some (.int (nI (i))), jk14, jk15, jk16, jk17, jk18, jk19, jk20, jk21] [] Q = rn 87 861 [some (.ref sb), some (.ref S), some (.ref (S + 148)), some (.ref (S + 149)), some (.ref (S + 150)), some (.ref (S + 151)), some (.ref (S + 152)), some (.ref (S + 153)), some (.ref (S + 154)), jk9, some (.int (x)), some (.int (11)), x12, some (.int (nI (j))), jk14, jk15, jk16, jk17, jk18, jk19, jk20, jk21] [] Q' ∧ Q'.2.2 = N.2.2 ∧ (∀ b, b ≠ S + 148 → b ≠ S + 149 → b ≠ S + 151 → Same N Q' b) ∧
        QR (mI Q' (S + 148)) n (R + j) (mJ N (S + 1 + 1) 1) ∧ EnR (mI Q' (S + 149)) (mI N (S + 1 + 1 + 1)) (mI N (S + 1 + 1 + 2)) (mI N (S + 1 + 1 + 3)) (mI (itR N (S + 1 + 7) (S + 1 + 1) n j) (S + 1 + 7 + 1)) (mI (itR N (S + 1 + 7) (S + 1 + 1) n j) (S + 1 + 7 + 2)) n ∧ TrR (mI Q' (S + 151)) (mI (itR N (S + 1 + 7) (S + 1 + 1) n j) (S + 1 + 7 + 4)) (mI (itR N (S + 1 + 7) (S + 1 + 1) n j) (S + 1 + 7 + 5)) ∧ Six (mI (itR N (S + 1 + 7) (S + 1 + 1) n j) (S + 1 + 7 + 5)) := by
  have n12 : n ≤ 12 := h.2.2.2.2.2.1
  have hF := Fq.refl N S
  obtain ⟨hb, hl, hlo, hrb, hrp, hrf, hrd, hwd, hti, hro⟩ := h.s
  have wlo : w12 (mJ N (S + 1 + 1) 1) := w12_of hlo n12
  obtain ⟨⟨kq, ke, kd, kt, ko, ky, kp⟩, ⟨Q0, Q1, Q2⟩, En, De, Tr, k0⟩ := h.n hF
  obtain ⟨h1, h2, ⟨w, hw⟩, h4, h5, h6, h7, h8, h9, h10, h11, h12, h13⟩ := id h
  have one0 : ((1 : Int32) = 0) = False := by decide
  have z01 : ((0 : Int32) = 1) = False := by decide
  have tI : ∀ i b, b < S + 1 + 7 → mI (itR N (S + 1 + 7) (S + 1 + 1) n i) b = mI N b := fun i b hb => itR_I (by omega) i
  have tJ : ∀ i b, b < S + 1 + 7 → mJ (itR N (S + 1 + 7) (S + 1 + 1) n i) b = mJ N b := fun i b hb => itR_J (by omega) i
  have hrdy : ∀ i, rdM (itR N (S + 1 + 7) (S + 1 + 1) n i) (S + 1 + 7) (S + 1 + 1) n = rdyB (mJ N (S + 1 + 1 + 4)) n (mJ N (S + 1 + 1) 1) (mJ (itR N (S + 1 + 7) (S + 1 + 1) n i) (S + 1 + 7) 0) := fun i => by
    unfold rdM
    rw [tJ i (S + 1 + 1 + 4) (by omega), tJ i (S + 1 + 1) (by omega)]
  have hdat : ∀ i, i ≤ 40 → RoB (mI (itR N (S + 1 + 7) (S + 1 + 1) n i) (S + 1 + 7 + 1)) n ∧ (∀ e, bt (mJ (itR N (S + 1 + 7) (S + 1 + 1) n i) (S + 1 + 7) 0) e = (decide (e < n) && !decide (mI (itR N (S + 1 + 7) (S + 1 + 1) n i) (S + 1 + 7 + 1) e = -6))) ∧ mI (itR N (S + 1 + 7) (S + 1 + 1) n i) (S + 1 + 7) 2 = nI (R + i) ∧ TI (mI (itR N (S + 1 + 7) (S + 1 + 1) n i) (S + 1 + 7 + 4)) (mI (itR N (S + 1 + 7) (S + 1 + 1) n i) (S + 1 + 7 + 5)) := fun i hi => by
    obtain ⟨w', hw'⟩ := k_rounds h1.2.1 hw i (by omega)
    obtain ⟨-, -, -, d1, d2, -, d3, -, d4, -⟩ := SR_dat hw' (by omega)
    exact ⟨d1, d2, d3, d4⟩
  intro m
  induction m with
  | zero =>
    intro i hi Q eQ sQ hQ hE hT h6
    obtain rfl : i = j := by omega
    obtain ⟨d1, d2, d3, d4⟩ := hdat i j40
    have hry := c_ready3 (M := Q) (q := S + 148) (E := S + 149) (d := S + 150) (by rw [KK eQ]; exact kq) (by rw [KK eQ]; exact ke) (by rw [KK eQ]; exact kd) n12 hQ.1 hQ.2.2 wlo (fun e he => (hE e he).2.2.2.1) d1 d2 (by rw [(sQ (S + 150) (by omega) (by omega) (by omega)).1]; exact De) hb
    rw [← hrdy, j2, show s32 0 = 0 from by decide] at hry
    refine ⟨Q, ?_, eQ, sQ, hQ, hE, hT, h6⟩
    rw [t87_835]
    simp only [t87_836, t87_837, t87_839, t87_842, hry, cbn_i, ↓reduceIte]
  | succ m ih =>
    intro i hi Q eQ sQ hQ hE hT h6
    obtain ⟨d1, d2, d3, d4⟩ := hdat i (by omega)
    have hDe : DeR (mI Q (S + 150)) (mJ N (S + 1 + 1 + 4)) n := by rw [(sQ (S + 150) (by omega) (by omega) (by omega)).1]; exact De
    have hry := c_ready3 (M := Q) (q := S + 148) (E := S + 149) (d := S + 150) (by rw [KK eQ]; exact kq) (by rw [KK eQ]; exact ke) (by rw [KK eQ]; exact kd) n12 hQ.1 hQ.2.2 wlo (fun e he => (hE e he).2.2.2.1) d1 d2 hDe hb
    rw [← hrdy] at hry
    have hne := j1 i (by omega)
    have wr : w12 (rdM (itR N (S + 1 + 7) (S + 1 + 1) n i) (S + 1 + 7) (S + 1 + 1) n) := by rw [hrdy]; exact w12_mk n12
    have hne' : (s32 (rdM (itR N (S + 1 + 7) (S + 1 + 1) n i) (S + 1 + 7) (S + 1 + 1) n) = 0) = False := by rw [s32_0 wr]; exact eq_false hne
    obtain ⟨m0, m1, m2, m3, m4, m5, m6⟩ := mkR_rows (itR N (S + 1 + 7) (S + 1 + 1) n i) (S + 1 + 7) (S + 1 + 1) n rfl
    rw [tI i (S + 1 + 1 + 1) (by omega), tI i (S + 1 + 1 + 2) (by omega), tI i (S + 1 + 1 + 3) (by omega), d3] at m1 m2 m4 m5
    obtain ⟨E', T', p1, p2, p3, p4⟩ := c_round3 (M := Q) (q := S + 148) (E := S + 149) (d := S + 150) (t := S + 151) (R := R + i) (rp := mJ (itR N (S + 1 + 7) (S + 1 + 1) n i) (S + 1 + 7) 0) (rf := mJ (itR N (S + 1 + 7) (S + 1 + 1) n i) (S + 1 + 7) 1) (by rw [KK eQ]; exact kq) (by rw [KK eQ]; exact ke) (by rw [KK eQ]; exact kd) (by rw [KK eQ]; exact kt) (by omega) (by omega) (by omega) n12 hQ wlo hE d1 d2 hDe hb h8 hT d4 h6 (hrdy i) rfl
    have hs0 : (mJ (itR N (S + 1 + 7) (S + 1 + 1) n i) (S + 1 + 7) 1, mI (itR N (S + 1 + 7) (S + 1 + 1) n i) (S + 1 + 7 + 1), mI (itR N (S + 1 + 7) (S + 1 + 1) n i) (S + 1 + 7 + 2), mI (itR N (S + 1 + 7) (S + 1 + 1) n i) (S + 1 + 7 + 4), mI (itR N (S + 1 + 7) (S + 1 + 1) n i) (S + 1 + 7 + 5)) = rS0 (itR N (S + 1 + 7) (S + 1 + 1) n i) (S + 1 + 7) := rfl
    rw [hs0] at p2 p3 p4
    rw [← m1, ← m2] at p2
    rw [← m4, ← m5] at p3
    have p46 : Six (mI (mkR (itR N (S + 1 + 7) (S + 1 + 1) n i) (S + 1 + 7) (S + 1 + 1) n) (S + 1 + 7 + 5)) := by rw [m5]; exact p4.2
    obtain ⟨Q1, hQ1⟩ : ∃ Q1, Q1 = sI (sI (sI Q (S + 149) E') (S + 151) T') (S + 148) (va_up (mI Q (S + 148)) 1 (nI (R + i + 1))) := ⟨_, rfl⟩
    rw [← hQ1] at p1
    have eQ1 : Q1.2.2 = N.2.2 := by rw [hQ1]; exact eQ
    have r148 : mI Q1 (S + 148) = va_up (mI Q (S + 148)) 1 (nI (R + i + 1)) := by rw [hQ1, mI_sI, if_pos rfl]
    have r151 : mI Q1 (S + 151) = T' := by rw [hQ1, mI_sI, if_neg (by omega), mI_sI, if_pos rfl]
    have r149 : mI Q1 (S + 149) = E' := by rw [hQ1, mI_sI, if_neg (by omega), mI_sI, if_neg (by omega), mI_sI, if_pos rfl]
    have rest : ∀ b, b ≠ S + 148 → b ≠ S + 149 → b ≠ S + 151 → Same N Q1 b := fun b z1 z2 z3 => ⟨(by rw [hQ1, mI_sI, if_neg z1, mI_sI, if_neg z3, mI_sI, if_neg z2]; exact (sQ b z1 z2 z3).1), (by rw [hQ1]; exact (sQ b z1 z2 z3).2)⟩
    obtain ⟨Q', q1, q2⟩ := ih (i + 1) (by omega) Q1 eQ1 rest
      (by rw [r148]; exact ⟨by rw [va_up_ne _ _ (by decide)]; exact hQ.1, va_up_self _ _ _, by rw [va_up_ne _ _ (by decide)]; exact hQ.2.2⟩) (by rw [r149]; exact p2) (by rw [r151]; exact p3) p46
    refine ⟨Q', ?_, q2⟩
    rw [t87_835]
    simp only [t87_836, t87_837, t87_839, t87_842, t87_845, t87_846, t87_847, t87_849, t87_851, t87_854, t87_855, t87_858, hry, cbn_i, hne', ↓reduceIte, p1, n1]
    exact q1
theorem act11b {N : SM} {S sb L n R : Nat} (h : R9 N S sb L n R) (hR : R + 40 ≤ 1000) (x : Int32) (x12 jk9 jk10 jk11 jk12 jk13 jk14 jk15 jk16 jk17 jk18 jk19 jk20 jk21 : Option Value) : ∃ N' R' j13, R9 N' S sb L n R' ∧ R' ≤ R + 40 ∧ N'.2.2 = N.2.2 ∧ rn 87 825 [some (.ref sb), some (.ref S), some (.ref (S + 148)), some (.ref (S + 149)), some (.ref (S + 150)), some (.ref (S + 151)), some (.ref (S + 152)), some (.ref (S + 153)), some (.ref (S + 154)), jk9, some (.int (x)), some (.int (11)), x12, jk13, jk14, jk15, jk16, jk17, jk18, jk19, jk20, jk21] [] N = rn 87 872 [some (.ref sb), some (.ref S), some (.ref (S + 148)), some (.ref (S + 149)), some (.ref (S + 150)), some (.ref (S + 151)), some (.ref (S + 152)), some (.ref (S + 153)), some (.ref (S + 154)), jk9, some (.int (x)), some (.int (11)), x12, j13, jk14, jk15, jk16, jk17, jk18, jk19, jk20, jk21] [] N' := by
  have n12 : n ≤ 12 := h.2.2.2.2.2.1
  have hF := Fq.refl N S
  obtain ⟨hb, hl, hlo, hrb, hrp, hrf, hrd, hwd, hti, hro⟩ := h.s
  have wlo : w12 (mJ N (S + 1 + 1) 1) := w12_of hlo n12
  obtain ⟨⟨kq, ke, kd, kt, ko, ky, kp⟩, ⟨Q0, Q1, Q2⟩, En, De, Tr, k0⟩ := h.n hF
  obtain ⟨h1, h2, ⟨w, hw⟩, h4, h5, h6, h7, h8, h9, h10, h11, h12, h13⟩ := id h
  have one0 : ((1 : Int32) = 0) = False := by decide
  have z01 : ((0 : Int32) = 1) = False := by decide
  obtain ⟨j, j40, ja, jb, -⟩ := k_replay h1.2.1 hw
  obtain ⟨Q, g0, eQ, sQ, a1, a2, a3, a4⟩ := l_rounds h hR j40 ja jb x x12 jk9 none none none none jk14 jk15 jk16 jk17 jk18 jk19 jk20 jk21 j 0 (by omega) N rfl (fun _ _ _ _ => ⟨rfl, rfl⟩) ⟨Q0, Q1, Q2⟩ En Tr h9
  rw [show nI 0 = 0 from rfl] at g0
  obtain ⟨M1, p, hc⟩ := pub_replay (h1.st eQ) (h2.fr (sQ (S + 14) (by omega) (by omega) (by omega)).1)
  have sM : ∀ b, b < S + 14 → Same N M1 b := fun b hb => ⟨(p.2 b (by omega)).1.trans (sQ b (by omega) (by omega) (by omega)).1, (p.2 b (by omega)).2.trans (sQ b (by omega) (by omega) (by omega)).2⟩
  have hwM := SR_same hw (fun b b1 b2 => sM b (by omega))
  have hSM := ((h1.st eQ).st p.1).2.1
  obtain ⟨j', j40', ja', jb', hcl⟩ := k_replay hSM hwM
  have loc := itR_loc0 (M := N) (N := M1) (r := S + 1 + 7) (h := S + 1 + 1) (n := n) (by omega) (fun b hb => sM b (by omega))
  have jj : j' = j := by
    rcases Nat.lt_trichotomy j' j with z | z | z
    · exact absurd jb' (by rw [(loc j').1]; exact ja j' z)
    · exact z
    · exact absurd jb (by rw [← (loc j).1]; exact ja' j z)
  subst jj
  obtain ⟨w', hw'⟩ := k_rounds hSM hwM j' (by omega)
  have fC : Fr M1 (itR M1 (S + 1 + 7) (S + 1 + 1) n j') (S + 2) (S + 14) := (Fr_itR _ _ _ _ _).mono (by omega) (by omega)
  obtain ⟨M3, g1, g2⟩ := hc _ _ hcl fC
  obtain ⟨y1, y2, y3⟩ := aft_rows p fC g2
  have eM : M3.2.2 = N.2.2 := g2.1.trans eQ
  have tm : ∀ b, b < S + 14 → Same (itR N (S + 1 + 7) (S + 1 + 1) n j') M3 b := fun b hb => ⟨(y2 b hb).1.trans ((loc j').2 b (by omega)).1, (y2 b hb).2.trans ((loc j').2 b (by omega)).2⟩
  have lI : ∀ b, b < S + 1 + 7 → mI M3 b = mI N b := fun b hb => (tm b (by omega)).1.trans (itR_I (by omega) j')
  have lJ : ∀ b, b < S + 1 + 7 → mJ M3 b = mJ N b := fun b hb => (tm b (by omega)).2.trans (itR_J (by omega) j')
  refine ⟨M3, R + j', some (.int (nI j')), h.new eM g2.2.2 ⟨w', SR_same hw' (fun b b1 b2 => y2 b (by omega))⟩ n12 (by omega) ?_ ?_ ?_ ?_ ?_ ?_, by omega, eM, ?_⟩
  · rw [lI _ (by omega), lI _ (by omega), lI _ (by omega)]; exact h8
  · rw [(tm (S + 1 + 7 + 5) (by omega)).1]; exact a4
  · rw [(y1 (S + 148) (by omega)).1, lJ _ (by omega)]; exact a1
  · rw [(y1 (S + 149) (by omega)).1, lI _ (by omega), lI _ (by omega), lI _ (by omega), (tm (S + 1 + 7 + 1) (by omega)).1, (tm (S + 1 + 7 + 2) (by omega)).1]; exact a2
  · rw [(y1 (S + 150) (by omega)).1, (sQ (S + 150) (by omega) (by omega) (by omega)).1, lJ _ (by omega)]; exact De
  · rw [(y1 (S + 151) (by omega)).1, (tm (S + 1 + 7 + 4) (by omega)).1, (tm (S + 1 + 7 + 5) (by omega)).1]; exact a3
  · simp only [t87_825, t87_827, t87_829, t87_832, t87_833, ↓reduceIte, not_true_eq_false]
    rw [g0]
    simp only [t87_861, t87_862, t87_865, t87_867, t87_870, KK eQ, k0, g1, cbn_i, ↓reduceIte]
