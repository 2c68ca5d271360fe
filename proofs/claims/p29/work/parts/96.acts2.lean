/-! acts of the law: dependencies told, rounds, the replay begun anew, made to its end -/
theorem act8 {N : SM} {S sb L n R e : Nat} (h : R9 N S sb L n R) (he : e < n) (x : Int32) (jk9 jk10 jk11 jk12 jk13 jk14 jk15 jk16 jk17 jk18 jk19 jk20 jk21 : Option Value) : ∃ N' R' j13, R9 N' S sb L n R' ∧ R' ≤ R ∧ N'.2.2 = N.2.2 ∧ rn 87 618 [some (.ref sb), some (.ref S), some (.ref (S + 148)), some (.ref (S + 149)), some (.ref (S + 150)), some (.ref (S + 151)), some (.ref (S + 152)), some (.ref (S + 153)), some (.ref (S + 154)), jk9, some (.int (x)), some (.int (8)), some (.int (nI e)), jk13, jk14, jk15, jk16, jk17, jk18, jk19, jk20, jk21] [] N = rn 87 872 [some (.ref sb), some (.ref S), some (.ref (S + 148)), some (.ref (S + 149)), some (.ref (S + 150)), some (.ref (S + 151)), some (.ref (S + 152)), some (.ref (S + 153)), some (.ref (S + 154)), jk9, some (.int (x)), some (.int (8)), some (.int (nI e)), j13, jk14, jk15, jk16, jk17, jk18, jk19, jk20, jk21] [] N' := by
  have n12 : n ≤ 12 := h.2.2.2.2.2.1
  have hF := Fq.refl N S
  obtain ⟨hb, hl, hlo, hrb, hrp, hrf, hrd, hwd, hti, hro⟩ := h.s
  have wlo : w12 (mJ N (S + 1 + 1) 1) := w12_of hlo n12
  obtain ⟨⟨kq, ke, kd, kt, ko, ky, kp⟩, ⟨Q0, Q1, Q2⟩, En, De, Tr, k0⟩ := h.n hF
  obtain ⟨h1, h2, ⟨w, hw⟩, h4, h5, h6, h7, h8, h9, h10, h11, h12, h13⟩ := id h
  have one0 : ((1 : Int32) = 0) = False := by decide
  have z01 : ((0 : Int32) = 1) = False := by decide
  obtain ⟨r, hrn, hr⟩ := c_low (M := N) (x >>> (8 &&& 31)) (m := n) (by omega) (by omega)
  have n0 : (nI n ≤ 0) = False := eq_false (nI_nle (by omega) (by omega))
  have ge : (nI e ≤ nI r) = (e ≤ r) := lE (by omega) (by omega)
  have ie : inR (nI e) 12 = True := iT (by omega) (by decide)
  have ce : (nI e).toNatClampNeg = e := cN (by omega)
  by_cases q : r < e
  · have nge : ¬ e ≤ r := by omega
    have wn : w12 (mJ N (S + 1 + 1 + 4) e) := w12_of (fun i hi => Nat.lt_trans (hb e he i hi) he) n12
    have dor : s32 (mJ N (S + 1 + 1 + 4) e) ||| e3 r = s32 (mJ N (S + 1 + 1 + 4) e ||| bE r) := by rw [e3_s (by omega), s32_or]
    obtain ⟨N1, hN1⟩ : ∃ N1, N1 = sI N (S + 150) (va_up (mI N (S + 150)) e (s32 (mJ N (S + 1 + 1 + 4) e ||| bE r))) := ⟨_, rfl⟩
    have e1 : N1.2.2 = N.2.2 := by rw [hN1]; rfl
    have s1 : ∀ b, b ≠ S + 150 → Same N N1 b := fun b hb => ⟨by rw [hN1, mI_sI, if_neg hb], by rw [hN1]; rfl⟩
    have r150 : mI N1 (S + 150) = va_up (mI N (S + 150)) e (s32 (mJ N (S + 1 + 1 + 4) e ||| bE r)) := by rw [hN1, mI_sI, if_pos rfl]
    obtain ⟨M1, p, hc⟩ := pub_need (h1.st e1) (h2.fr (s1 (S + 14) (by omega)).1)
    have sM : ∀ b, b < S + 14 → Same N M1 b := fun b hb => ⟨(p.2 b (by omega)).1.trans (s1 b (by omega)).1, (p.2 b (by omega)).2.trans (s1 b (by omega)).2⟩
    have kl := k_need ((h1.st e1).st p.1).2.1 (SR_same hw (fun b b1 b2 => sM b (by omega))) he (show r < n by omega)
    rw [if_pos q, (sM (S + 1 + 1 + 4) (by omega)).2, (sM (S + 1 + 1 + 5) (by omega)).2] at kl
    obtain ⟨C2, C', c1, c2, c3, c4⟩ := kl
    have fC2 : Fr M1 C2 (S + 2) (S + 14) := by rw [c1]; exact (Fr.sJ _ (by omega) (by omega)).trans (Fr.sJ _ (by omega) (by omega))
    have fC : Fr M1 C' (S + 2) (S + 14) := by rw [c2]; exact fC2.trans ((Fr_rClr C2 (S + 1 + 7)).mono (by omega) (by omega))
    obtain ⟨M3, g1, g2⟩ := hc (nI e) (nI r) _ C' c3 fC
    obtain ⟨y1, y2, y3⟩ := aft_rows p fC g2
    have eM : M3.2.2 = N.2.2 := g2.1.trans e1
    have lI : ∀ b, b < S + 1 + 7 → mI M3 b = mI N b := fun b hb => by
      rw [(y2 b (by omega)).1, c2, ((Fr_rClr C2 (S + 1 + 7)).2 b (by omega)).1, c1]
      exact (sM b (by omega)).1
    have l1 : mJ M3 (S + 1 + 1) = mJ N (S + 1 + 1) := by
      rw [(y2 (S + 1 + 1) (by omega)).2, c2, ((Fr_rClr C2 (S + 1 + 7)).2 (S + 1 + 1) (by omega)).2, c1, mJ_sJ, if_neg (by omega), mJ_sJ, if_neg (by omega)]
      exact (sM _ (by omega)).2
    have l4 : mJ M3 (S + 1 + 1 + 4) = va_up (mJ N (S + 1 + 1 + 4)) e (mJ N (S + 1 + 1 + 4) e ||| bE r) := by
      rw [(y2 (S + 1 + 1 + 4) (by omega)).2, c2, ((Fr_rClr C2 (S + 1 + 7)).2 (S + 1 + 1 + 4) (by omega)).2, c1, mJ_sJ, if_neg (by omega), mJ_sJ, if_pos rfl]
    have q3 : mI M3 (S + 150) = va_up (mI N (S + 150)) e (s32 (mJ N (S + 1 + 1 + 4) e ||| bE r)) := by rw [(y1 (S + 150) (by omega)).1, r150]
    have q149 : mI M3 (S + 149) = mI N (S + 149) := by rw [(y1 (S + 149) (by omega)).1, (s1 (S + 149) (by omega)).1]
    have q148 : mI M3 (S + 148) = mI N (S + 148) := by rw [(y1 (S + 148) (by omega)).1, (s1 (S + 148) (by omega)).1]
    obtain ⟨N', a1, a2, a3⟩ := anew_fin (C1 := C2) h eM g2.2.2 (by rw [← c2]; exact fun b hb => y2 b hb) (by rw [← c2]; exact c4) (by rw [lI (S + 1 + 1 + 1) (by omega), lI (S + 1 + 1 + 2) (by omega), lI (S + 1 + 1 + 3) (by omega)]; exact h8) (by rw [q148]; exact Q0) (by rw [q148, l1]; exact Q2)
      ⟨_, _, by rw [q149, lI (S + 1 + 1 + 1) (by omega), lI (S + 1 + 1 + 2) (by omega), lI (S + 1 + 1 + 3) (by omega)]; exact h11⟩ (by
        rw [q3, l4]
        intro k hk
        by_cases z : k = e
        · subst z; rw [va_up_self, va_up_self]
        · rw [va_up_ne _ _ z, va_up_ne _ _ z]; exact De k hk)
    have wx : w12 (mJ N (S + 1 + 1 + 4) e ||| bE r) := w12_or wn (w12_bE (by omega))
    have hbits := c_bits3 wx M3
    have hde := De e he
    refine ⟨N', 0, some (.int (nI r)), a2, Nat.zero_le _, a3, ?_⟩
    simp only [t87_618, t87_620, t87_622, t87_625, t87_626, t87_627, t87_628, t87_631, t87_633, t87_635, t87_636, t87_637, t87_638, t87_639, t87_642, t87_644, t87_646, t87_648, t87_651, t87_653, t87_655, t87_656, t87_657, t87_658, t87_660, t87_661, t87_662, kq, kd, true_or, i03, and_self, ↓reduceIte, z0, Q0, n0, hr, cbn_i, ge, nge, ie, ce, hde, dor, not_true_eq_false]
    rw [← hN1]
    simp only [t87_663, t87_664, t87_666, t87_668, t87_671, t87_673, t87_675, t87_678, t87_680, t87_682, t87_683, t87_686, t87_689, t87_691, t87_694, t87_695, t87_696, t87_698, t87_700, t87_703, t87_704, t87_705, t87_707, t87_710, KK e1, KK eM, k0, kd, g1, cbn_i, cbn_v, ↓reduceIte, true_or, ie, ce, and_self, ge, nge, q3, va_up_self, hbits, a1, not_true_eq_false]
  · have ge' : e ≤ r := by omega
    obtain ⟨M1, p, hc⟩ := pub_need h1 h2
    have kl := k_need (h1.st p.1).2.1 (SR_same hw (fun b b1 b2 => p.2 b (by omega))) he hrn
    rw [if_neg q] at kl
    obtain ⟨M3, g1, g2⟩ := hc (nI e) (nI r) (-5) M1 kl ⟨rfl, fun _ _ => ⟨rfl, rfl⟩⟩
    refine ⟨M3, R, some (.int (nI r)), h.hist p g2, Nat.le_refl _, g2.1, ?_⟩
    simp only [t87_618, t87_620, t87_622, t87_625, t87_626, t87_627, t87_628, t87_631, t87_633, t87_635, t87_636, t87_637, t87_638, t87_639, t87_642, t87_644, t87_646, t87_648, t87_651, t87_653, t87_655, t87_656, t87_657, t87_658, t87_660, t87_661, t87_662, t87_663, t87_664, t87_666, t87_668, t87_671, t87_673, t87_675, t87_678, t87_680, t87_682, t87_683, t87_686, t87_689, t87_691, t87_694, t87_695, t87_696, t87_698, t87_700, t87_703, t87_704, t87_705, t87_707, t87_710, KK g2.1, kq, k0, true_or, i03, and_self, ↓reduceIte, z0, Q0, n0, hr, cbn_i, ge, ge', g1, not_true_eq_false]
theorem act9 {N : SM} {S sb L n R : Nat} (h : R9 N S sb L n R) (hR : R + 40 ≤ 1000) (x kd9 : Int32) (hkd : kd9 = 9 ∨ kd9 = 10) (x12 jk9 jk10 jk11 jk12 jk13 jk14 jk15 jk16 jk17 jk18 jk19 jk20 jk21 : Option Value) : ∃ N', R9 N' S sb L n (R + 1) ∧ N'.2.2 = N.2.2 ∧ rn 87 713 [some (.ref sb), some (.ref S), some (.ref (S + 148)), some (.ref (S + 149)), some (.ref (S + 150)), some (.ref (S + 151)), some (.ref (S + 152)), some (.ref (S + 153)), some (.ref (S + 154)), jk9, some (.int (x)), some (.int (kd9)), x12, jk13, jk14, jk15, jk16, jk17, jk18, jk19, jk20, jk21] [] N = rn 87 872 [some (.ref sb), some (.ref S), some (.ref (S + 148)), some (.ref (S + 149)), some (.ref (S + 150)), some (.ref (S + 151)), some (.ref (S + 152)), some (.ref (S + 153)), some (.ref (S + 154)), jk9, some (.int (x)), some (.int (kd9)), x12, jk13, jk14, jk15, jk16, jk17, jk18, jk19, jk20, jk21] [] N' := by
  have n12 : n ≤ 12 := h.2.2.2.2.2.1
  have hF := Fq.refl N S
  obtain ⟨hb, hl, hlo, hrb, hrp, hrf, hrd, hwd, hti, hro⟩ := h.s
  have wlo : w12 (mJ N (S + 1 + 1) 1) := w12_of hlo n12
  obtain ⟨⟨kq, ke, kd, kt, ko, ky, kp⟩, ⟨Q0, Q1, Q2⟩, En, De, Tr, k0⟩ := h.n hF
  obtain ⟨h1, h2, ⟨w, hw⟩, h4, h5, h6, h7, h8, h9, h10, h11, h12, h13⟩ := id h
  have one0 : ((1 : Int32) = 0) = False := by decide
  have z01 : ((0 : Int32) = 1) = False := by decide
  obtain ⟨M1, p, hc⟩ := pub_round h1 h2
  have sM : ∀ b, b < S + 14 → Same N M1 b := fun b hb => p.2 b (by omega)
  have hwM := SR_same hw (fun b b1 b2 => sM b (by omega))
  obtain ⟨k1, w', k2⟩ := k_round (h1.st p.1).2.1 hwM (by omega)
  have fC : Fr M1 (mkR M1 (S + 1 + 7) (S + 1 + 1) n) (S + 2) (S + 14) := (Fr_mkR _ _ _ _).mono (by omega) (by omega)
  obtain ⟨M3, g1, g2⟩ := hc _ _ k1 fC
  obtain ⟨y1, y2, y3⟩ := aft_rows p fC g2
  have hrdy : rdM M1 (S + 1 + 7) (S + 1 + 1) n = rdyB (mJ N (S + 1 + 1 + 4)) n (mJ N (S + 1 + 1) 1) (mJ N (S + 1 + 7) 0) := by
    unfold rdM
    rw [(sM (S + 1 + 1 + 4) (by omega)).2, (sM (S + 1 + 1) (by omega)).2, (sM (S + 1 + 7) (by omega)).2]
  obtain ⟨m0, m1, m2, m3, m4, m5, m6⟩ := mkR_rows M1 (S + 1 + 7) (S + 1 + 1) n rfl
  have rs : rS0 M1 (S + 1 + 7) = (mJ N (S + 1 + 7) 1, mI N (S + 1 + 7 + 1), mI N (S + 1 + 7 + 2), mI N (S + 1 + 7 + 4), mI N (S + 1 + 7 + 5)) := by
    unfold rS0
    rw [(sM (S + 1 + 7) (by omega)).2, (sM (S + 1 + 7 + 1) (by omega)).1, (sM (S + 1 + 7 + 2) (by omega)).1, (sM (S + 1 + 7 + 4) (by omega)).1, (sM (S + 1 + 7 + 5) (by omega)).1]
  rw [rs, (sM (S + 1 + 1 + 1) (by omega)).1, (sM (S + 1 + 1 + 2) (by omega)).1, (sM (S + 1 + 1 + 3) (by omega)).1, (sM (S + 1 + 7) (by omega)).1, hrd] at m1 m2 m4 m5
  have eM : M3.2.2 = N.2.2 := g2.1
  have lI : ∀ b, b < S + 1 + 7 → mI M3 b = mI N b := fun b hb => by rw [(y2 b (by omega)).1, mkR_I (by omega)]; exact (sM b (by omega)).1
  have lJ : ∀ b, b < S + 1 + 7 → mJ M3 b = mJ N b := fun b hb => by rw [(y2 b (by omega)).2, mkR_J (by omega)]; exact (sM b (by omega)).2
  obtain ⟨E', T', p1, p2, p3, p4⟩ := c_round3 (M := M3) (q := S + 148) (E := S + 149) (d := S + 150) (t := S + 151) (R := R) (rf := mJ N (S + 1 + 7) 1) (by rw [KK eM]; exact kq) (by rw [KK eM]; exact ke) (by rw [KK eM]; exact kd) (by rw [KK eM]; exact kt) (by omega) (by omega) (by omega) n12 (by rw [(y1 _ (by omega)).1]; exact ⟨Q0, Q1, Q2⟩) wlo (by rw [(y1 _ (by omega)).1]; exact En) hrb hrp (by rw [(y1 _ (by omega)).1]; exact De) hb h8 (by rw [(y1 _ (by omega)).1]; exact Tr) hti h9 hrdy rfl
  rw [← m1, ← m2] at p2
  rw [← m4, ← m5] at p3
  have p46 : Six (mI (mkR M1 (S + 1 + 7) (S + 1 + 1) n) (S + 1 + 7 + 5)) := by rw [m5]; exact p4.2
  obtain ⟨N', hN'⟩ : ∃ N', N' = sI (sI (sI M3 (S + 149) E') (S + 151) T') (S + 148) (va_up (mI M3 (S + 148)) 1 (nI (R + 1))) := ⟨_, rfl⟩
  rw [← hN'] at p1
  have e' : N'.2.2 = N.2.2 := by rw [hN']; exact eM
  have same : ∀ b, b < S + 148 → Same M3 N' b := fun b hb => ⟨by rw [hN', mI_sI, if_neg (by omega), mI_sI, if_neg (by omega), mI_sI, if_neg (by omega)], by rw [hN']; rfl⟩
  have same14 : ∀ b, b < S + 14 → Same (mkR M1 (S + 1 + 7) (S + 1 + 1) n) N' b := fun b hb => ⟨(same b (by omega)).1.trans (y2 b hb).1, (same b (by omega)).2.trans (y2 b hb).2⟩
  have r148 : mI N' (S + 148) = va_up (mI N (S + 148)) 1 (nI (R + 1)) := by rw [hN', mI_sI, if_pos rfl, (y1 (S + 148) (by omega)).1]
  have r149 : mI N' (S + 149) = E' := by rw [hN', mI_sI, if_neg (by omega), mI_sI, if_neg (by omega), mI_sI, if_pos rfl]
  have r150 : mI N' (S + 150) = mI N (S + 150) := by rw [hN', mI_sI, if_neg (by omega), mI_sI, if_neg (by omega), mI_sI, if_neg (by omega), (y1 (S + 150) (by omega)).1]
  have r151 : mI N' (S + 151) = T' := by rw [hN', mI_sI, if_neg (by omega), mI_sI, if_pos rfl]
  refine ⟨N', h.new e' (g2.2.2.fr (same _ (by omega)).1) ⟨w', SR_same k2 (fun b b1 b2 => same14 b (by omega))⟩ n12 (by omega) ?_ ?_ ?_ ?_ ?_ ?_, e', ?_⟩
  · rw [(same (S + 1 + 1 + 1) (by omega)).1, (same (S + 1 + 1 + 2) (by omega)).1, (same (S + 1 + 1 + 3) (by omega)).1, lI _ (by omega), lI _ (by omega), lI _ (by omega)]; exact h8
  · rw [(same14 (S + 1 + 7 + 5) (by omega)).1]; exact p46
  · rw [r148, (same (S + 1 + 1) (by omega)).2, lJ _ (by omega)]
    exact ⟨by rw [va_up_ne _ _ (by decide)]; exact Q0, va_up_self _ _ _, by rw [va_up_ne _ _ (by decide)]; exact Q2⟩
  · rw [r149, (same (S + 1 + 1 + 1) (by omega)).1, (same (S + 1 + 1 + 2) (by omega)).1, (same (S + 1 + 1 + 3) (by omega)).1, lI _ (by omega), lI _ (by omega), lI _ (by omega), (same14 (S + 1 + 7 + 1) (by omega)).1, (same14 (S + 1 + 7 + 2) (by omega)).1]; exact p2
  · rw [r150, (same (S + 1 + 1 + 4) (by omega)).2, lJ _ (by omega)]; exact De
  · rw [r151, (same14 (S + 1 + 7 + 4) (by omega)).1, (same14 (S + 1 + 7 + 5) (by omega)).1]; exact p3
  · have e109 : ((10 : Int32) = 9) = False := by decide
    rcases hkd with rfl | rfl
    · simp only [t87_713, t87_715, t87_717, t87_720, t87_722, t87_724, t87_727, t87_728, t87_731, t87_732, t87_733, t87_735, t87_737, t87_740, t87_743, t87_744, k0, g1, p1, cbn_i, ↓reduceIte, not_true_eq_false]
    · simp only [t87_713, t87_715, t87_717, t87_720, t87_722, t87_724, t87_727, t87_728, t87_731, t87_732, t87_733, t87_735, t87_737, t87_740, t87_743, t87_744, k0, g1, p1, cbn_i, ↓reduceIte, e109, not_true_eq_false]
