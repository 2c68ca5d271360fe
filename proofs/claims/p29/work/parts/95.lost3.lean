/-! acts of the law: entries lost and found, dependencies told -/
theorem anew_fin {N M3 C1 : SM} {S sb L n R : Nat} (h : R9 N S sb L n R) (e : M3.2.2 = N.2.2) (hH : HistC M3 S) (hs : ∀ b, b < S + 14 → Same (rClr C1 (S + 1 + 7)) M3 b) (hw : ∃ w, SR (rClr C1 (S + 1 + 7)) (S + 1) w n 0) (hE : EnS (mI M3 (S + 1 + 1 + 1)) (mI M3 (S + 1 + 1 + 2)) (mI M3 (S + 1 + 1 + 3)) n)
    (hq0 : mI M3 (S + 148) 0 = nI n) (hq2 : mI M3 (S + 148) 2 = s32 (mJ M3 (S + 1 + 1) 1)) (hEn : ∃ ro re, EnR (mI M3 (S + 149)) (mI M3 (S + 1 + 1 + 1)) (mI M3 (S + 1 + 1 + 2)) (mI M3 (S + 1 + 1 + 3)) ro re n) (hD : DeR (mI M3 (S + 150)) (mJ M3 (S + 1 + 1 + 4)) n) :
    ∃ N', cl 68 [.ref (S + 148), .ref (S + 149), .ref (S + 151)] M3 = some (none, N') ∧ R9 N' S sb L n 0 ∧ N'.2.2 = N.2.2 := by
  obtain ⟨ro, re, hEn⟩ := hEn
  obtain ⟨⟨kq, ke, kd, kt, -, -, -⟩, -⟩ := h.n (Fq.refl N S)
  have n12 : n ≤ 12 := h.2.2.2.2.2.1
  obtain ⟨E', T', g1, g2, g3⟩ := c_anew3 (M := M3) (q := S + 148) (E := S + 149) (t := S + 151) (by rw [KK e]; exact kq) (by rw [KK e]; exact ke) (by rw [KK e]; exact kt) (by omega) (by omega) (by omega) n12 hq0 hEn
  obtain ⟨N', hN'⟩ : ∃ N', N' = sI (sI (sI M3 (S + 149) E') (S + 148) (va_up (mI M3 (S + 148)) 1 0)) (S + 151) T' := ⟨_, rfl⟩
  rw [← hN'] at g1
  have e' : N'.2.2 = M3.2.2 := by rw [hN']; rfl
  have same : ∀ b, b < S + 148 → Same M3 N' b := fun b hb => ⟨by rw [hN', mI_sI, if_neg (by omega), mI_sI, if_neg (by omega), mI_sI, if_neg (by omega)], by rw [hN']; rfl⟩
  have r148 : mI N' (S + 148) = va_up (mI M3 (S + 148)) 1 0 := by rw [hN', mI_sI, if_neg (by omega), mI_sI, if_pos rfl]
  have r149 : mI N' (S + 149) = E' := by rw [hN', mI_sI, if_neg (by omega), mI_sI, if_neg (by omega), mI_sI, if_pos rfl]
  have r150 : mI N' (S + 150) = mI M3 (S + 150) := by rw [hN', mI_sI, if_neg (by omega), mI_sI, if_neg (by omega), mI_sI, if_neg (by omega)]
  have r151 : mI N' (S + 151) = T' := by rw [hN', mI_sI, if_pos rfl]
  obtain ⟨c1, c2, c3, c4⟩ := clr_rows C1 (S + 1 + 7)
  have v1 : mI N' (S + 1 + 7 + 1) = mI (rClr C1 (S + 1 + 7)) (S + 1 + 7 + 1) := (same _ (by omega)).1.trans (hs _ (by omega)).1
  have v2 : mI N' (S + 1 + 7 + 2) = mI (rClr C1 (S + 1 + 7)) (S + 1 + 7 + 2) := (same _ (by omega)).1.trans (hs _ (by omega)).1
  have v4 : mI N' (S + 1 + 7 + 4) = mI (rClr C1 (S + 1 + 7)) (S + 1 + 7 + 4) := (same _ (by omega)).1.trans (hs _ (by omega)).1
  have v5 : mI N' (S + 1 + 7 + 5) = mI (rClr C1 (S + 1 + 7)) (S + 1 + 7 + 5) := (same _ (by omega)).1.trans (hs _ (by omega)).1
  obtain ⟨w, hw⟩ := hw
  refine ⟨N', g1, h.new (e'.trans e) (hH.fr (same _ (by omega)).1) ⟨w, SR_same hw (fun b b1 b2 => ⟨(same b (by omega)).1.trans (hs b (by omega)).1, (same b (by omega)).2.trans (hs b (by omega)).2⟩)⟩ n12 (by omega) ?_ ?_ ?_ ?_ ?_ ?_, e'.trans e⟩
  · rw [(same (S + 1 + 1 + 1) (by omega)).1, (same (S + 1 + 1 + 2) (by omega)).1, (same (S + 1 + 1 + 3) (by omega)).1]; exact hE
  · rw [v5]; exact Six_e c4
  · rw [r148, (same (S + 1 + 1) (by omega)).2]
    exact ⟨by rw [va_up_ne _ _ (by decide)]; exact hq0, va_up_self _ _ _, by rw [va_up_ne _ _ (by decide)]; exact hq2⟩
  · rw [r149, (same (S + 1 + 1 + 1) (by omega)).1, (same (S + 1 + 1 + 2) (by omega)).1, (same (S + 1 + 1 + 3) (by omega)).1, v1, v2]
    intro e he
    obtain ⟨a0, a1, a2, a3, a4⟩ := g2 e he
    exact ⟨a0, a1, a2, a3.trans (c1 e (by omega)).1.symm, a4.trans (c1 e (by omega)).2.symm⟩
  · rw [r150, (same (S + 1 + 1 + 4) (by omega)).2]; exact hD
  · rw [r151, v4, v5]; exact TrR_e g3 c2 c3 c4
/-- nothing but the history is another one -/
theorem R9.hist {N M1 M3 : SM} {S sb L n R : Nat} (h : R9 N S sb L n R) (p : Fr N M1 (S + 16) (S + 107)) (a : Aft N M1 M3 S) : R9 M3 S sb L n R := by
  obtain ⟨g1, g2, g3⟩ := aft_rows p ⟨rfl, fun _ _ => ⟨rfl, rfl⟩⟩ a
  have same : ∀ b, b < S + 14 → Same N M3 b := fun b hb => ⟨(g2 b hb).1.trans (g3 b hb).1, (g2 b hb).2.trans (g3 b hb).2⟩
  obtain ⟨h1, h2, ⟨w, h3⟩, h4, h5, h6, h7, h8, h9, h10, h11, h12, h13⟩ := id h
  refine h.new a.1 a.2.2 ⟨w, SR_same h3 (fun b b1 b2 => same b (by omega))⟩ h6 h7 ?_ ?_ ?_ ?_ ?_ ?_
  · rw [(same (S + 1 + 1 + 1) (by omega)).1, (same (S + 1 + 1 + 2) (by omega)).1, (same (S + 1 + 1 + 3) (by omega)).1]; exact h8
  · rw [(same (S + 1 + 7 + 5) (by omega)).1]; exact h9
  · rw [(g1 (S + 148) (by omega)).1, (same (S + 1 + 1) (by omega)).2]; exact h10
  · rw [(g1 (S + 149) (by omega)).1, (same (S + 1 + 1 + 1) (by omega)).1, (same (S + 1 + 1 + 2) (by omega)).1, (same (S + 1 + 1 + 3) (by omega)).1, (same (S + 1 + 7 + 1) (by omega)).1, (same (S + 1 + 7 + 2) (by omega)).1]; exact h11
  · rw [(g1 (S + 150) (by omega)).1, (same (S + 1 + 1 + 4) (by omega)).2]; exact h12
  · rw [(g1 (S + 151) (by omega)).1, (same (S + 1 + 7 + 4) (by omega)).1, (same (S + 1 + 7 + 5) (by omega)).1]; exact h13
theorem act7a {N : SM} {S sb L n R e : Nat} (h : R9 N S sb L n R) (he : e < n) (x : Int32) (hb : bt (mJ N (S + 1 + 1) 1) e = false) (jk9 jk10 jk11 jk12 jk13 jk14 jk15 jk16 jk17 jk18 jk19 jk20 jk21 : Option Value) : ∃ N' R' j15, R9 N' S sb L n R' ∧ R' ≤ R ∧ N'.2.2 = N.2.2 ∧ rn 87 531 [some (.ref sb), some (.ref S), some (.ref (S + 148)), some (.ref (S + 149)), some (.ref (S + 150)), some (.ref (S + 151)), some (.ref (S + 152)), some (.ref (S + 153)), some (.ref (S + 154)), jk9, some (.int (x)), some (.int (7)), some (.int (nI e)), some (.int (0)), some (.int (1)), jk15, jk16, jk17, jk18, jk19, jk20, jk21] [] N = rn 87 872 [some (.ref sb), some (.ref S), some (.ref (S + 148)), some (.ref (S + 149)), some (.ref (S + 150)), some (.ref (S + 151)), some (.ref (S + 152)), some (.ref (S + 153)), some (.ref (S + 154)), jk9, some (.int (x)), some (.int (7)), some (.int (nI e)), some (.int (0)), some (.int (1)), j15, jk16, jk17, jk18, jk19, jk20, jk21] [] N' := by
  have hbt := hb
  have n12 : n ≤ 12 := h.2.2.2.2.2.1
  have hF := Fq.refl N S
  obtain ⟨hb, hl, hlo, hrb, hrp, hrf, hrd, hwd, hti, hro⟩ := h.s
  have wlo : w12 (mJ N (S + 1 + 1) 1) := w12_of hlo n12
  obtain ⟨⟨kq, ke, kd, kt, ko, ky, kp⟩, ⟨Q0, Q1, Q2⟩, En, De, Tr, k0⟩ := h.n hF
  obtain ⟨h1, h2, ⟨w, hw⟩, h4, h5, h6, h7, h8, h9, h10, h11, h12, h13⟩ := id h
  have one0 : ((1 : Int32) = 0) = False := by decide
  have z01 : ((0 : Int32) = 1) = False := by decide
  obtain ⟨N1, hN1⟩ : ∃ N1, N1 = sI N (S + 148) (va_up (mI N (S + 148)) 2 (s32 (mJ N (S + 1 + 1) 1 ^^^ bE e))) := ⟨_, rfl⟩
  have e1 : N1.2.2 = N.2.2 := by rw [hN1]; rfl
  have s1 : ∀ b, b ≠ S + 148 → Same N N1 b := fun b hb => ⟨by rw [hN1, mI_sI, if_neg hb], by rw [hN1]; rfl⟩
  have r148 : mI N1 (S + 148) = va_up (mI N (S + 148)) 2 (s32 (mJ N (S + 1 + 1) 1 ^^^ bE e)) := by rw [hN1, mI_sI, if_pos rfl]
  obtain ⟨M1, p, hc⟩ := pub_lose (h1.st e1) (h2.fr (s1 (S + 14) (by omega)).1)
  have sM : ∀ b, b < S + 14 → Same N M1 b := fun b hb => ⟨(p.2 b (by omega)).1.trans (s1 b (by omega)).1, (p.2 b (by omega)).2.trans (s1 b (by omega)).2⟩
  have kl := k_lost false ((h1.st e1).st p.1).2.1 (SR_same hw (fun b b1 b2 => sM b (by omega))) he
  rw [(sM (S + 1 + 1) (by omega)).2, if_pos hbt] at kl
  obtain ⟨C1, C', c1, c2, c3, c4⟩ := kl
  have fC1 : Fr M1 C1 (S + 2) (S + 14) := by rw [c1]; exact Fr.sJ _ (by omega) (by omega)
  have fC : Fr M1 C' (S + 2) (S + 14) := by rw [c2]; exact fC1.trans ((Fr_rClr C1 (S + 1 + 7)).mono (by omega) (by omega))
  obtain ⟨M3, g1, g2⟩ := hc (nI e) _ C' c3 fC
  obtain ⟨y1, y2, y3⟩ := aft_rows p fC g2
  have eM : M3.2.2 = N.2.2 := g2.1.trans e1
  have lr : ∀ b, b < S + 1 + 7 → b ≠ S + 1 + 1 → Same N M3 b := fun b hb hne => by
    have z : Same M1 C' b := by
      rw [c2]
      have q := (Fr_rClr C1 (S + 1 + 7)).2 b (by omega)
      exact ⟨q.1.trans (by rw [c1]; rfl), q.2.trans (by rw [c1, mJ_sJ, if_neg hne])⟩
    exact ⟨((y2 b (by omega)).1.trans z.1).trans (sM b (by omega)).1, ((y2 b (by omega)).2.trans z.2).trans (sM b (by omega)).2⟩
  have xl : mJ M3 (S + 1 + 1) 1 = mJ N (S + 1 + 1) 1 ^^^ bE e := by
    rw [(y2 (S + 1 + 1) (by omega)).2, c2, ((Fr_rClr C1 (S + 1 + 7)).2 (S + 1 + 1) (by omega)).2, c1, mJ_sJ, if_pos rfl, va_up_self]
  have il : mI M3 (S + 1 + 1) = mI N (S + 1 + 1) := by
    rw [(y2 (S + 1 + 1) (by omega)).1, c2, ((Fr_rClr C1 (S + 1 + 7)).2 (S + 1 + 1) (by omega)).1, c1]
    exact (sM (S + 1 + 1) (by omega)).1
  have q3 : mI M3 (S + 148) = va_up (mI N (S + 148)) 2 (s32 (mJ N (S + 1 + 1) 1 ^^^ bE e)) := by rw [(y1 (S + 148) (by omega)).1, r148]
  have q149 : mI M3 (S + 149) = mI N (S + 149) := by rw [(y1 (S + 149) (by omega)).1, (s1 (S + 149) (by omega)).1]
  have q150 : mI M3 (S + 150) = mI N (S + 150) := by rw [(y1 (S + 150) (by omega)).1, (s1 (S + 150) (by omega)).1]
  have l4 : mJ M3 (S + 1 + 1 + 4) = mJ N (S + 1 + 1 + 4) := (lr _ (by omega) (by omega)).2
  have q30 : mI M3 (S + 148) 0 = nI n := by rw [q3, va_up_ne _ _ (by decide)]; exact Q0
  have q32 : mI M3 (S + 148) 2 = s32 (mJ N (S + 1 + 1) 1 ^^^ bE e) := by rw [q3, va_up_self]
  obtain ⟨N', a1, a2, a3⟩ := anew_fin (C1 := C1) h eM g2.2.2 (by rw [← c2]; exact fun b hb => y2 b hb) (by rw [← c2]; exact c4) (by rw [(lr (S + 1 + 1 + 1) (by omega) (by omega)).1, (lr (S + 1 + 1 + 2) (by omega) (by omega)).1, (lr (S + 1 + 1 + 3) (by omega) (by omega)).1]; exact h8) q30 (by rw [q32, xl])
    ⟨_, _, by rw [q149, (lr (S + 1 + 1 + 1) (by omega) (by omega)).1, (lr (S + 1 + 1 + 2) (by omega) (by omega)).1, (lr (S + 1 + 1 + 3) (by omega) (by omega)).1]; exact h11⟩ (by rw [q150, l4]; exact h12)
  have wx : w12 (mJ N (S + 1 + 1) 1 ^^^ bE e) := w12_xor wlo (by omega)
  have hop := c_orphans3 (M := M3) (q := S + 148) (d := S + 150) (by rw [KK eM]; exact kq) (by rw [KK eM]; exact kd) n12 q30 wx (by rw [q150]; exact De) hb hl
  have hbits := c_bits3 (orpB_w (g := mJ N (S + 1 + 1 + 5)) (x := mJ N (S + 1 + 1) 1 ^^^ bE e) n12) M3
  rw [(sM (S + 1 + 1 + 5) (by omega)).2] at g1
  have ex : s32 (mJ N (S + 1 + 1) 1) ^^^ e3 e = s32 (mJ N (S + 1 + 1) 1 ^^^ bE e) := b3_xor_s wlo (by omega)
  refine ⟨N', 0, some (.int (nI (cnt (bt (orpB (mJ N (S + 1 + 1 + 5)) n (mJ N (S + 1 + 1) 1 ^^^ bE e))) 64))), a2, Nat.zero_le _, a3, ?_⟩
  simp only [t87_531, t87_533, t87_535, t87_538, t87_539, t87_540, t87_541, t87_542, t87_543, t87_545, t87_546, t87_547, kq, true_or, i23, and_self, ↓reduceIte, z2, Q2, ex, one0, z01, not_true_eq_false, not_false_eq_true]
  rw [← hN1]
  simp only [t87_548, t87_550, t87_553, t87_554, t87_556, t87_559, t87_562, t87_563, t87_565, t87_568, t87_570, t87_572, t87_574, t87_576, t87_579, t87_581, t87_584, t87_585, t87_586, t87_587, t87_588, t87_590, t87_593, t87_596, t87_599, t87_600, t87_601, t87_603, t87_605, t87_608, t87_609, t87_610, t87_612, t87_615, KK e1, KK eM, k0, kq, g1, cbn_i, cbn_v, ↓reduceIte, one0, z01, true_or, i23, and_self, z2, q32, hop, hbits, a1, not_true_eq_false, not_false_eq_true]
theorem act7b {N : SM} {S sb L n R e : Nat} (h : R9 N S sb L n R) (he : e < n) (x : Int32) (hb : bt (mJ N (S + 1 + 1) 1) e = true) (jk9 jk10 jk11 jk12 jk13 jk14 jk15 jk16 jk17 jk18 jk19 jk20 jk21 : Option Value) : ∃ N' R' j15, R9 N' S sb L n R' ∧ R' ≤ R ∧ N'.2.2 = N.2.2 ∧ rn 87 531 [some (.ref sb), some (.ref S), some (.ref (S + 148)), some (.ref (S + 149)), some (.ref (S + 150)), some (.ref (S + 151)), some (.ref (S + 152)), some (.ref (S + 153)), some (.ref (S + 154)), jk9, some (.int (x)), some (.int (7)), some (.int (nI e)), some (.int (1)), some (.int (1)), jk15, jk16, jk17, jk18, jk19, jk20, jk21] [] N = rn 87 872 [some (.ref sb), some (.ref S), some (.ref (S + 148)), some (.ref (S + 149)), some (.ref (S + 150)), some (.ref (S + 151)), some (.ref (S + 152)), some (.ref (S + 153)), some (.ref (S + 154)), jk9, some (.int (x)), some (.int (7)), some (.int (nI e)), some (.int (1)), some (.int (1)), j15, jk16, jk17, jk18, jk19, jk20, jk21] [] N' := by
  have hbt := hb
  have n12 : n ≤ 12 := h.2.2.2.2.2.1
  have hF := Fq.refl N S
  obtain ⟨hb, hl, hlo, hrb, hrp, hrf, hrd, hwd, hti, hro⟩ := h.s
  have wlo : w12 (mJ N (S + 1 + 1) 1) := w12_of hlo n12
  obtain ⟨⟨kq, ke, kd, kt, ko, ky, kp⟩, ⟨Q0, Q1, Q2⟩, En, De, Tr, k0⟩ := h.n hF
  obtain ⟨h1, h2, ⟨w, hw⟩, h4, h5, h6, h7, h8, h9, h10, h11, h12, h13⟩ := id h
  have one0 : ((1 : Int32) = 0) = False := by decide
  have z01 : ((0 : Int32) = 1) = False := by decide
  obtain ⟨M1, p, hc⟩ := pub_lose h1 h2
  have kl := k_lost false (h1.st p.1).2.1 (SR_same hw (fun b b1 b2 => p.2 b (by omega))) he
  rw [(p.2 (S + 1 + 1) (by omega)).2, if_neg (by rw [hbt]; decide)] at kl
  obtain ⟨M3, g1, g2⟩ := hc (nI e) (-5) M1 kl ⟨rfl, fun _ _ => ⟨rfl, rfl⟩⟩
  have a55 : ((-5 : Int32) = -5) = True := by decide
  refine ⟨M3, R, some (.int (-5)), h.hist p g2, Nat.le_refl _, g2.1, ?_⟩
  simp only [t87_531, t87_533, t87_535, t87_538, t87_539, t87_540, t87_541, t87_542, t87_543, t87_545, t87_546, t87_547, t87_548, t87_550, t87_553, t87_554, t87_556, t87_559, t87_562, t87_563, t87_565, t87_568, t87_570, t87_572, t87_574, t87_576, t87_579, t87_581, t87_584, t87_585, t87_586, t87_587, t87_588, t87_590, t87_593, t87_596, t87_599, t87_600, t87_601, t87_603, t87_605, t87_608, t87_609, t87_610, t87_612, t87_615, k0, g1, cbn_i, ↓reduceIte, one0, z01, not_true_eq_false, not_false_eq_true]
theorem act7c {N : SM} {S sb L n R e : Nat} (h : R9 N S sb L n R) (he : e < n) (x : Int32) (hb : bt (mJ N (S + 1 + 1) 1) e = true) (jk9 jk10 jk11 jk12 jk13 jk14 jk15 jk16 jk17 jk18 jk19 jk20 jk21 : Option Value) : ∃ N' R' j15, R9 N' S sb L n R' ∧ R' ≤ R ∧ N'.2.2 = N.2.2 ∧ rn 87 531 [some (.ref sb), some (.ref S), some (.ref (S + 148)), some (.ref (S + 149)), some (.ref (S + 150)), some (.ref (S + 151)), some (.ref (S + 152)), some (.ref (S + 153)), some (.ref (S + 154)), jk9, some (.int (x)), some (.int (7)), some (.int (nI e)), some (.int (1)), some (.int (0)), jk15, jk16, jk17, jk18, jk19, jk20, jk21] [] N = rn 87 872 [some (.ref sb), some (.ref S), some (.ref (S + 148)), some (.ref (S + 149)), some (.ref (S + 150)), some (.ref (S + 151)), some (.ref (S + 152)), some (.ref (S + 153)), some (.ref (S + 154)), jk9, some (.int (x)), some (.int (7)), some (.int (nI e)), some (.int (1)), some (.int (0)), j15, jk16, jk17, jk18, jk19, jk20, jk21] [] N' := by
  have hbt := hb
  have n12 : n ≤ 12 := h.2.2.2.2.2.1
  have hF := Fq.refl N S
  obtain ⟨hb, hl, hlo, hrb, hrp, hrf, hrd, hwd, hti, hro⟩ := h.s
  have wlo : w12 (mJ N (S + 1 + 1) 1) := w12_of hlo n12
  obtain ⟨⟨kq, ke, kd, kt, ko, ky, kp⟩, ⟨Q0, Q1, Q2⟩, En, De, Tr, k0⟩ := h.n hF
  obtain ⟨h1, h2, ⟨w, hw⟩, h4, h5, h6, h7, h8, h9, h10, h11, h12, h13⟩ := id h
  have one0 : ((1 : Int32) = 0) = False := by decide
  have z01 : ((0 : Int32) = 1) = False := by decide
  obtain ⟨N1, hN1⟩ : ∃ N1, N1 = sI N (S + 148) (va_up (mI N (S + 148)) 2 (s32 (mJ N (S + 1 + 1) 1 ^^^ bE e))) := ⟨_, rfl⟩
  have e1 : N1.2.2 = N.2.2 := by rw [hN1]; rfl
  have s1 : ∀ b, b ≠ S + 148 → Same N N1 b := fun b hb => ⟨by rw [hN1, mI_sI, if_neg hb], by rw [hN1]; rfl⟩
  have r148 : mI N1 (S + 148) = va_up (mI N (S + 148)) 2 (s32 (mJ N (S + 1 + 1) 1 ^^^ bE e)) := by rw [hN1, mI_sI, if_pos rfl]
  obtain ⟨M1, p, hc⟩ := pub_find (h1.st e1) (h2.fr (s1 (S + 14) (by omega)).1)
  have sM : ∀ b, b < S + 14 → Same N M1 b := fun b hb => ⟨(p.2 b (by omega)).1.trans (s1 b (by omega)).1, (p.2 b (by omega)).2.trans (s1 b (by omega)).2⟩
  have kl := k_lost true ((h1.st e1).st p.1).2.1 (SR_same hw (fun b b1 b2 => sM b (by omega))) he
  rw [(sM (S + 1 + 1) (by omega)).2, if_pos hbt] at kl
  obtain ⟨C1, C', c1, c2, c3, c4⟩ := kl
  have fC1 : Fr M1 C1 (S + 2) (S + 14) := by rw [c1]; exact Fr.sJ _ (by omega) (by omega)
  have fC : Fr M1 C' (S + 2) (S + 14) := by rw [c2]; exact fC1.trans ((Fr_rClr C1 (S + 1 + 7)).mono (by omega) (by omega))
  obtain ⟨M3, g1, g2⟩ := hc (nI e) _ C' c3 fC
  obtain ⟨y1, y2, y3⟩ := aft_rows p fC g2
  have eM : M3.2.2 = N.2.2 := g2.1.trans e1
  have lr : ∀ b, b < S + 1 + 7 → b ≠ S + 1 + 1 → Same N M3 b := fun b hb hne => by
    have z : Same M1 C' b := by
      rw [c2]
      have q := (Fr_rClr C1 (S + 1 + 7)).2 b (by omega)
      exact ⟨q.1.trans (by rw [c1]; rfl), q.2.trans (by rw [c1, mJ_sJ, if_neg hne])⟩
    exact ⟨((y2 b (by omega)).1.trans z.1).trans (sM b (by omega)).1, ((y2 b (by omega)).2.trans z.2).trans (sM b (by omega)).2⟩
  have xl : mJ M3 (S + 1 + 1) 1 = mJ N (S + 1 + 1) 1 ^^^ bE e := by
    rw [(y2 (S + 1 + 1) (by omega)).2, c2, ((Fr_rClr C1 (S + 1 + 7)).2 (S + 1 + 1) (by omega)).2, c1, mJ_sJ, if_pos rfl, va_up_self]
  have il : mI M3 (S + 1 + 1) = mI N (S + 1 + 1) := by
    rw [(y2 (S + 1 + 1) (by omega)).1, c2, ((Fr_rClr C1 (S + 1 + 7)).2 (S + 1 + 1) (by omega)).1, c1]
    exact (sM (S + 1 + 1) (by omega)).1
  have q3 : mI M3 (S + 148) = va_up (mI N (S + 148)) 2 (s32 (mJ N (S + 1 + 1) 1 ^^^ bE e)) := by rw [(y1 (S + 148) (by omega)).1, r148]
  have q149 : mI M3 (S + 149) = mI N (S + 149) := by rw [(y1 (S + 149) (by omega)).1, (s1 (S + 149) (by omega)).1]
  have q150 : mI M3 (S + 150) = mI N (S + 150) := by rw [(y1 (S + 150) (by omega)).1, (s1 (S + 150) (by omega)).1]
  have l4 : mJ M3 (S + 1 + 1 + 4) = mJ N (S + 1 + 1 + 4) := (lr _ (by omega) (by omega)).2
  have q30 : mI M3 (S + 148) 0 = nI n := by rw [q3, va_up_ne _ _ (by decide)]; exact Q0
  have q32 : mI M3 (S + 148) 2 = s32 (mJ N (S + 1 + 1) 1 ^^^ bE e) := by rw [q3, va_up_self]
  obtain ⟨N', a1, a2, a3⟩ := anew_fin (C1 := C1) h eM g2.2.2 (by rw [← c2]; exact fun b hb => y2 b hb) (by rw [← c2]; exact c4) (by rw [(lr (S + 1 + 1 + 1) (by omega) (by omega)).1, (lr (S + 1 + 1 + 2) (by omega) (by omega)).1, (lr (S + 1 + 1 + 3) (by omega) (by omega)).1]; exact h8) q30 (by rw [q32, xl])
    ⟨_, _, by rw [q149, (lr (S + 1 + 1 + 1) (by omega) (by omega)).1, (lr (S + 1 + 1 + 2) (by omega) (by omega)).1, (lr (S + 1 + 1 + 3) (by omega) (by omega)).1]; exact h11⟩ (by rw [q150, l4]; exact h12)
  have wx : w12 (mJ N (S + 1 + 1) 1 ^^^ bE e) := w12_xor wlo (by omega)
  have hop := c_orphans3 (M := M3) (q := S + 148) (d := S + 150) (by rw [KK eM]; exact kq) (by rw [KK eM]; exact kd) n12 q30 wx (by rw [q150]; exact De) hb hl
  have hbits := c_bits3 (orpB_w (g := mJ N (S + 1 + 1 + 5)) (x := mJ N (S + 1 + 1) 1 ^^^ bE e) n12) M3
  rw [(sM (S + 1 + 1 + 5) (by omega)).2] at g1
  have ex : s32 (mJ N (S + 1 + 1) 1) ^^^ e3 e = s32 (mJ N (S + 1 + 1) 1 ^^^ bE e) := b3_xor_s wlo (by omega)
  refine ⟨N', 0, some (.int (nI (cnt (bt (orpB (mJ N (S + 1 + 1 + 5)) n (mJ N (S + 1 + 1) 1 ^^^ bE e))) 64))), a2, Nat.zero_le _, a3, ?_⟩
  simp only [t87_531, t87_533, t87_535, t87_538, t87_539, t87_540, t87_541, t87_542, t87_543, t87_545, t87_546, t87_547, kq, true_or, i23, and_self, ↓reduceIte, z2, Q2, ex, one0, z01, not_true_eq_false, not_false_eq_true]
  rw [← hN1]
  simp only [t87_548, t87_550, t87_553, t87_554, t87_556, t87_559, t87_562, t87_563, t87_565, t87_568, t87_570, t87_572, t87_574, t87_576, t87_579, t87_581, t87_584, t87_585, t87_586, t87_587, t87_588, t87_590, t87_593, t87_596, t87_599, t87_600, t87_601, t87_603, t87_605, t87_608, t87_609, t87_610, t87_612, t87_615, KK e1, KK eM, k0, kq, g1, cbn_i, cbn_v, ↓reduceIte, one0, z01, true_or, i23, and_self, z2, q32, hop, hbits, a1, not_true_eq_false, not_false_eq_true]
theorem act7d {N : SM} {S sb L n R e : Nat} (h : R9 N S sb L n R) (he : e < n) (x : Int32) (hb : bt (mJ N (S + 1 + 1) 1) e = false) (jk9 jk10 jk11 jk12 jk13 jk14 jk15 jk16 jk17 jk18 jk19 jk20 jk21 : Option Value) : ∃ N' R' j15, R9 N' S sb L n R' ∧ R' ≤ R ∧ N'.2.2 = N.2.2 ∧ rn 87 531 [some (.ref sb), some (.ref S), some (.ref (S + 148)), some (.ref (S + 149)), some (.ref (S + 150)), some (.ref (S + 151)), some (.ref (S + 152)), some (.ref (S + 153)), some (.ref (S + 154)), jk9, some (.int (x)), some (.int (7)), some (.int (nI e)), some (.int (0)), some (.int (0)), jk15, jk16, jk17, jk18, jk19, jk20, jk21] [] N = rn 87 872 [some (.ref sb), some (.ref S), some (.ref (S + 148)), some (.ref (S + 149)), some (.ref (S + 150)), some (.ref (S + 151)), some (.ref (S + 152)), some (.ref (S + 153)), some (.ref (S + 154)), jk9, some (.int (x)), some (.int (7)), some (.int (nI e)), some (.int (0)), some (.int (0)), j15, jk16, jk17, jk18, jk19, jk20, jk21] [] N' := by
  have hbt := hb
  have n12 : n ≤ 12 := h.2.2.2.2.2.1
  have hF := Fq.refl N S
  obtain ⟨hb, hl, hlo, hrb, hrp, hrf, hrd, hwd, hti, hro⟩ := h.s
  have wlo : w12 (mJ N (S + 1 + 1) 1) := w12_of hlo n12
  obtain ⟨⟨kq, ke, kd, kt, ko, ky, kp⟩, ⟨Q0, Q1, Q2⟩, En, De, Tr, k0⟩ := h.n hF
  obtain ⟨h1, h2, ⟨w, hw⟩, h4, h5, h6, h7, h8, h9, h10, h11, h12, h13⟩ := id h
  have one0 : ((1 : Int32) = 0) = False := by decide
  have z01 : ((0 : Int32) = 1) = False := by decide
  obtain ⟨M1, p, hc⟩ := pub_find h1 h2
  have kl := k_lost true (h1.st p.1).2.1 (SR_same hw (fun b b1 b2 => p.2 b (by omega))) he
  rw [(p.2 (S + 1 + 1) (by omega)).2, if_neg (by rw [hbt]; decide)] at kl
  obtain ⟨M3, g1, g2⟩ := hc (nI e) (-5) M1 kl ⟨rfl, fun _ _ => ⟨rfl, rfl⟩⟩
  have a55 : ((-5 : Int32) = -5) = True := by decide
  refine ⟨M3, R, some (.int (-5)), h.hist p g2, Nat.le_refl _, g2.1, ?_⟩
  simp only [t87_531, t87_533, t87_535, t87_538, t87_539, t87_540, t87_541, t87_542, t87_543, t87_545, t87_546, t87_547, t87_548, t87_550, t87_553, t87_554, t87_556, t87_559, t87_562, t87_563, t87_565, t87_568, t87_570, t87_572, t87_574, t87_576, t87_579, t87_581, t87_584, t87_585, t87_586, t87_587, t87_588, t87_590, t87_593, t87_596, t87_599, t87_600, t87_601, t87_603, t87_605, t87_608, t87_609, t87_610, t87_612, t87_615, k0, g1, cbn_i, ↓reduceIte, one0, z01, not_true_eq_false, not_false_eq_true]
theorem act7 {N : SM} {S sb L n R e : Nat} (h : R9 N S sb L n R) (he : e < n) (x : Int32) (jk9 jk10 jk11 jk12 jk13 jk14 jk15 jk16 jk17 jk18 jk19 jk20 jk21 : Option Value) : ∃ N' R' j13 j14 j15, R9 N' S sb L n R' ∧ R' ≤ R ∧ N'.2.2 = N.2.2 ∧ rn 87 480 [some (.ref sb), some (.ref S), some (.ref (S + 148)), some (.ref (S + 149)), some (.ref (S + 150)), some (.ref (S + 151)), some (.ref (S + 152)), some (.ref (S + 153)), some (.ref (S + 154)), jk9, some (.int (x)), some (.int (7)), some (.int (nI e)), jk13, jk14, jk15, jk16, jk17, jk18, jk19, jk20, jk21] [] N = rn 87 872 [some (.ref sb), some (.ref S), some (.ref (S + 148)), some (.ref (S + 149)), some (.ref (S + 150)), some (.ref (S + 151)), some (.ref (S + 152)), some (.ref (S + 153)), some (.ref (S + 154)), jk9, some (.int (x)), some (.int (7)), some (.int (nI e)), j13, j14, j15, jk16, jk17, jk18, jk19, jk20, jk21] [] N' := by
  have n12 : n ≤ 12 := h.2.2.2.2.2.1
  have hF := Fq.refl N S
  obtain ⟨hb, hl, hlo, hrb, hrp, hrf, hrd, hwd, hti, hro⟩ := h.s
  have wlo : w12 (mJ N (S + 1 + 1) 1) := w12_of hlo n12
  obtain ⟨⟨kq, ke, kd, kt, ko, ky, kp⟩, ⟨Q0, Q1, Q2⟩, En, De, Tr, k0⟩ := h.n hF
  obtain ⟨h1, h2, ⟨w, hw⟩, h4, h5, h6, h7, h8, h9, h10, h11, h12, h13⟩ := id h
  have one0 : ((1 : Int32) = 0) = False := by decide
  have z01 : ((0 : Int32) = 1) = False := by decide
  obtain ⟨r, r2, hr⟩ := c_low (M := N) (x >>> (8 &&& 31)) (m := 2) (by decide) (by decide)
  have hr : cl 60 [.int (x >>> (8 &&& 31)), .int 2] N = some (some (.int (nI r)), N) := hr
  have n0 : (nI n ≤ 0) = False := eq_false (nI_nle (by omega) (by omega))
  have hrd2 : (s32 (mJ N (S + 1 + 1) 1) >>> (nI e &&& 31)) &&& 1 = if bt (mJ N (S + 1 + 1) 1) e = true then 1 else 0 := by rw [b3_read (show e < 32 by omega), b3_w wlo]
  match r, r2 with
  | 0, _ =>
    rw [show nI 0 = 0 from rfl] at hr
    cases hx : bt (mJ N (S + 1 + 1) 1) e with
    | false =>
      obtain ⟨N', R', j15, a1, a2, a3, a4⟩ := act7a h he x hx jk9 none none none none none jk15 jk16 jk17 jk18 jk19 jk20 jk21
      rw [hx] at hrd2
      simp only [Bool.false_eq_true, ↓reduceIte] at hrd2
      refine ⟨N', R', _, _, j15, a1, a2, a3, Eq.trans ?_ a4⟩
      simp only [t87_480, t87_482, t87_484, t87_487, t87_488, t87_489, t87_490, t87_493, t87_494, t87_495, t87_496, t87_498, t87_499, t87_500, t87_501, t87_502, t87_505, t87_506, t87_509, t87_510, t87_512, t87_514, t87_516, t87_517, t87_518, t87_521, t87_524, t87_525, t87_528, t87_529, kq, true_or, i03, i23, and_self, ↓reduceIte, z0, z2, Q0, Q2, n0, hrd2, hr, cbn_i, z01, not_true_eq_false, not_false_eq_true]
    | true =>
      obtain ⟨N', R', j15, a1, a2, a3, a4⟩ := act7b h he x hx jk9 none none none none none jk15 jk16 jk17 jk18 jk19 jk20 jk21
      rw [hx] at hrd2
      simp only [↓reduceIte] at hrd2
      refine ⟨N', R', _, _, j15, a1, a2, a3, Eq.trans ?_ a4⟩
      simp only [t87_480, t87_482, t87_484, t87_487, t87_488, t87_489, t87_490, t87_493, t87_494, t87_495, t87_496, t87_498, t87_499, t87_500, t87_501, t87_502, t87_505, t87_506, t87_509, t87_510, t87_512, t87_514, t87_516, t87_517, t87_518, t87_521, t87_524, t87_525, t87_528, t87_529, kq, true_or, i03, i23, and_self, ↓reduceIte, z0, z2, Q0, Q2, n0, hrd2, hr, cbn_i, z01, not_true_eq_false, not_false_eq_true]
  | 1, _ =>
    rw [show nI 1 = 1 from rfl] at hr
    cases hx : bt (mJ N (S + 1 + 1) 1) e with
    | true =>
      obtain ⟨N', R', j15, a1, a2, a3, a4⟩ := act7c h he x hx jk9 none none none none none jk15 jk16 jk17 jk18 jk19 jk20 jk21
      rw [hx] at hrd2
      simp only [↓reduceIte] at hrd2
      refine ⟨N', R', _, _, j15, a1, a2, a3, Eq.trans ?_ a4⟩
      simp only [t87_480, t87_482, t87_484, t87_487, t87_488, t87_489, t87_490, t87_493, t87_494, t87_495, t87_496, t87_498, t87_499, t87_500, t87_501, t87_502, t87_505, t87_506, t87_509, t87_510, t87_512, t87_514, t87_516, t87_517, t87_518, t87_521, t87_524, t87_525, t87_528, t87_529, kq, true_or, i03, i23, and_self, ↓reduceIte, z0, z2, Q0, Q2, n0, hrd2, hr, cbn_i, one0, not_true_eq_false, not_false_eq_true]
    | false =>
      obtain ⟨N', R', j15, a1, a2, a3, a4⟩ := act7d h he x hx jk9 none none none none none jk15 jk16 jk17 jk18 jk19 jk20 jk21
      rw [hx] at hrd2
      simp only [Bool.false_eq_true, ↓reduceIte] at hrd2
      refine ⟨N', R', _, _, j15, a1, a2, a3, Eq.trans ?_ a4⟩
      simp only [t87_480, t87_482, t87_484, t87_487, t87_488, t87_489, t87_490, t87_493, t87_494, t87_495, t87_496, t87_498, t87_499, t87_500, t87_501, t87_502, t87_505, t87_506, t87_509, t87_510, t87_512, t87_514, t87_516, t87_517, t87_518, t87_521, t87_524, t87_525, t87_528, t87_529, kq, true_or, i03, i23, and_self, ↓reduceIte, z0, z2, Q0, Q2, n0, hrd2, hr, cbn_i, one0, z01, not_true_eq_false, not_false_eq_true]
