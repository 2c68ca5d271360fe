/-! acts of the law: an entry written, whole -/
theorem lgApp_rows (M : SM) (h n : Nat) (kd f a : Int32) : mI (lgApp M h n kd f a) (h + 1) = va_up (mI M (h + 1)) n kd ∧ mI (lgApp M h n kd f a) (h + 2) = va_up (mI M (h + 2)) n f ∧ mI (lgApp M h n kd f a) (h + 3) = va_up (mI M (h + 3)) n a ∧
    mJ (lgApp M h n kd f a) (h + 4) = va_up (mJ M (h + 4)) n (fNd (mI M (h + 1)) (mI M (h + 2)) (mI M (h + 3)) n kd f a) ∧ mJ (lgApp M h n kd f a) h = mJ M h := by
  have a1 : h + 1 ≠ h := by omega
  have a2 : h + 2 ≠ h := by omega
  have a3 : h + 3 ≠ h := by omega
  have b5 : h ≠ h + 5 := by omega
  have b4 : h ≠ h + 4 := by omega
  unfold lgApp
  simp only [mJ_sI, mJ_sJ, mI_sI, mI_sJ, ↓reduceIte, a1, a2, a3, b4, b5, Nat.add_left_cancel_iff, (by decide : ((1 : Nat) = 2) = False), (by decide : ((1 : Nat) = 3) = False), (by decide : ((2 : Nat) = 3) = False), (by decide : ((4 : Nat) = 5) = False), and_self]
theorem actA {N : SM} {S sb L n R kd : Nat} (h : R9 N S sb L n R) (hkd : kd < 7) (hn : n < 12) (x : Int32) (x12 jk9 jk10 jk11 jk12 jk13 jk14 jk15 jk16 jk17 jk18 jk19 jk20 jk21 : Option Value) : ∃ N' j13 j14 j15 j16 j17 j18 j19 j20 j21, R9 N' S sb L (n + 1) R ∧ N'.2.2 = N.2.2 ∧ rn 87 107 [some (.ref sb), some (.ref S), some (.ref (S + 148)), some (.ref (S + 149)), some (.ref (S + 150)), some (.ref (S + 151)), some (.ref (S + 152)), some (.ref (S + 153)), some (.ref (S + 154)), jk9, some (.int (x)), some (.int (nI kd)), x12, jk13, jk14, jk15, jk16, jk17, jk18, jk19, jk20, jk21] [] N = rn 87 872 [some (.ref sb), some (.ref S), some (.ref (S + 148)), some (.ref (S + 149)), some (.ref (S + 150)), some (.ref (S + 151)), some (.ref (S + 152)), some (.ref (S + 153)), some (.ref (S + 154)), jk9, some (.int (x)), some (.int (nI kd)), x12, j13, j14, j15, j16, j17, j18, j19, j20, j21] [] N' := by
  have n12 : n ≤ 12 := h.2.2.2.2.2.1
  have hF := Fq.refl N S
  obtain ⟨hb, hl, hlo, hrb, hrp, hrf, hrd, hwd, hti, hro⟩ := h.s
  have wlo : w12 (mJ N (S + 1 + 1) 1) := w12_of hlo n12
  obtain ⟨⟨kq, ke, kdd, kt, ko, ky, kp⟩, ⟨Q0, Q1, Q2⟩, En, De, Tr, k0⟩ := h.n hF
  obtain ⟨h1, h2, ⟨w, hsr⟩, h4, h5, h6, h7, h8, h9, h10, h11, h12, h13⟩ := id h
  have one0 : ((1 : Int32) = 0) = False := by decide
  have z01 : ((0 : Int32) = 1) = False := by decide
  obtain ⟨o, ho, s1⟩ := wr_o (sb := sb) hkd hn kq Q0 x x12 jk9 jk10 jk11 jk12 jk13 jk14 jk15 jk16 jk17 jk18 jk19 jk20 jk21
  obtain ⟨f, a, hok, s2⟩ := wr_f (N := N) (S := S) (sb := sb) (kd := kd) ho x x12 jk9 jk10 jk11 jk12 jk13 jk14 jk15 jk16 jk17 jk18 jk19 jk20 jk21
  obtain ⟨M1, M3, p, af, s3⟩ := wr_call (kd := kd) h hn hok x x12 jk9 jk10 jk11 jk12 jk13 jk14 jk15 jk16 jk17 jk18 jk19 jk20 jk21
  have fC : Fr M1 (lgApp M1 (S + 1 + 1) n (nI o) (nI f) a) (S + 2) (S + 14) := (Fr_lgApp _ _ _ _ _ _).mono (by omega) (by omega)
  obtain ⟨y1, y2, y3⟩ := aft_rows p fC af
  obtain ⟨g1, g2, g3, g4, g5⟩ := lgApp_rows M1 (S + 1 + 1) n (nI o) (nI f) a
  rw [(y3 (S + 1 + 1 + 1) (by omega)).1] at g1
  rw [(y3 (S + 1 + 1 + 2) (by omega)).1] at g2
  rw [(y3 (S + 1 + 1 + 3) (by omega)).1] at g3
  rw [(y3 (S + 1 + 1 + 1) (by omega)).1, (y3 (S + 1 + 1 + 2) (by omega)).1, (y3 (S + 1 + 1 + 3) (by omega)).1, (y3 (S + 1 + 1 + 4) (by omega)).2] at g4
  rw [(y3 (S + 1 + 1) (by omega)).2] at g5
  have e3 : M3.2.2 = N.2.2 := af.1
  have s4 := wr_en (N := M3) (S := S) (sb := sb) (o := o) (f := f) (kd := kd) (a := a) hn (by rw [KK e3]; exact kq) (by rw [KK e3]; exact ke) (by rw [(y1 _ (by omega)).1]; exact Q0) x x12 jk9 jk10 jk11 jk12 jk13 jk14 jk15 jk16 jk17 jk18 jk19 jk20 jk21
  rw [(y1 (S + 149) (by omega)).1] at s4
  obtain ⟨M4, hM4⟩ : ∃ M4, M4 = sI M3 (S + 149) (enW (mI N (S + 149)) n (nI o) (nI f) a) := ⟨_, rfl⟩
  rw [← hM4] at s4
  have e4 : M4.2.2 = N.2.2 := by rw [hM4]; exact e3
  have m4 : ∀ b, b ≠ S + 149 → Same M3 M4 b := fun b hb => ⟨by rw [hM4, mI_sI, if_neg hb], by rw [hM4]; rfl⟩
  have r149 : mI M4 (S + 149) = enW (mI N (S + 149)) n (nI o) (nI f) a := by rw [hM4, mI_sI, if_pos rfl]
  have q148 : mI M4 (S + 148) = mI N (S + 148) := by rw [(m4 _ (by omega)).1, (y1 _ (by omega)).1]
  have q150 : mI M4 (S + 150) = mI N (S + 150) := by rw [(m4 _ (by omega)).1, (y1 _ (by omega)).1]
  have ha : nI o = 0 ∨ nI o = 2 → (a ≤ 0) = (a = 0) := fun hc => by
    have hc' : o = 0 ∨ o = 2 := (by decide +kernel : ∀ o, o < 4 → nI o = 0 ∨ nI o = 2 → o = 0 ∨ o = 2) o ho hc
    obtain ⟨j, j6, e⟩ := hok.1.2.2 hc'
    rw [e]
    exact (by decide +kernel : ∀ j, j < 6 → (nI j ≤ 0) = (nI j = 0)) j j6
  have hX : ∀ e, e < n → mI M4 (S + 149) (5 * e) = (mI N (S + 1 + 1 + 1)) e ∧ mI M4 (S + 149) (5 * e + 1) = (mI N (S + 1 + 1 + 2)) e ∧ mI M4 (S + 149) (5 * e + 2) = (mI N (S + 1 + 1 + 3)) e := fun e he => by
    rw [r149, enW_lo (by omega), enW_lo (by omega), enW_lo (by omega)]
    obtain ⟨a0, a1, a2, -, -⟩ := En e he
    exact ⟨a0, a1, a2⟩
  have s5 := wr_loop (N := M4) (S := S) (sb := sb) (o := o) (f := f) (kd := kd) (a := a) ho ha hn (by rw [KK e4]; exact kq) (by rw [KK e4]; exact ke) (by rw [q148]; exact Q0) hX (fun e he => ⟨_, (h8 e he).1.1.1, (h8 e he).2.1⟩) x x12 jk9 jk10 jk11 jk12 jk13 jk14 jk15 jk16 jk17 jk18 jk19 jk20 jk21
  have s6 := wr_de (N := M4) (S := S) (sb := sb) (o := o) (f := f) (kd := kd) (a := a) (K := (mI N (S + 1 + 1 + 1))) (F := (mI N (S + 1 + 1 + 2))) (A := (mI N (S + 1 + 1 + 3))) hn (by rw [KK e4]; exact kq) (by rw [KK e4]; exact kdd) (by rw [q148]; exact Q0) x x12 jk9 jk10 jk11 jk12 jk13 jk14 jk15 jk16 jk17 jk18 jk19 jk20 jk21
  rw [q148, q150] at s6
  obtain ⟨N', hN'⟩ : ∃ N', N' = sI (sI M4 (S + 150) (va_up (mI N (S + 150)) n (s32 (fNd ((mI N (S + 1 + 1 + 1))) ((mI N (S + 1 + 1 + 2))) ((mI N (S + 1 + 1 + 3))) n (nI o) (nI f) a)))) (S + 148) (va_up (mI N (S + 148)) 0 (nI (n + 1))) := ⟨_, rfl⟩
  rw [← hN'] at s6
  have eN : N'.2.2 = N.2.2 := by rw [hN']; exact e4
  have t148 : mI N' (S + 148) = va_up (mI N (S + 148)) 0 (nI (n + 1)) := by rw [hN', mI_sI, if_pos rfl]
  have t150 : mI N' (S + 150) = va_up (mI N (S + 150)) n (s32 (fNd ((mI N (S + 1 + 1 + 1))) ((mI N (S + 1 + 1 + 2))) ((mI N (S + 1 + 1 + 3))) n (nI o) (nI f) a)) := by rw [hN', mI_sI, if_neg (by omega), mI_sI, if_pos rfl]
  have t149 : mI N' (S + 149) = enW (mI N (S + 149)) n (nI o) (nI f) a := by rw [hN', mI_sI, if_neg (by omega), mI_sI, if_neg (by omega)]; exact r149
  have t151 : mI N' (S + 151) = mI N (S + 151) := by rw [hN', mI_sI, if_neg (by omega), mI_sI, if_neg (by omega), (m4 _ (by omega)).1, (y1 _ (by omega)).1]
  have lw : ∀ b, b < S + 148 → Same M3 N' b := fun b hb => ⟨by rw [hN', mI_sI, if_neg (by omega), mI_sI, if_neg (by omega)]; exact (m4 b (by omega)).1, by rw [hN']; exact (m4 b (by omega)).2⟩
  have lg : ∀ b, b < S + 14 → Same (lgApp M1 (S + 1 + 1) n (nI o) (nI f) a) N' b := fun b hb => ⟨(lw b (by omega)).1.trans (y2 b hb).1, (lw b (by omega)).2.trans (y2 b hb).2⟩
  have l1 := (lg (S + 1 + 1 + 1) (by omega)).1.trans g1
  have l2 := (lg (S + 1 + 1 + 2) (by omega)).1.trans g2
  have l3 := (lg (S + 1 + 1 + 3) (by omega)).1.trans g3
  have l4 := (lg (S + 1 + 1 + 4) (by omega)).2.trans g4
  have l5 := (lg (S + 1 + 1) (by omega)).2.trans g5
  have up : ∀ b, S + 1 + 7 ≤ b → b < S + 14 → Same N N' b := fun b b1 b2 => ⟨((lg b b2).1.trans (lgApp_I (by omega))).trans (y3 b b2).1, ((lg b b2).2.trans (lgApp_J (by omega))).trans (y3 b b2).2⟩
  have hsM := SR_same hsr (fun b b1 b2 => y3 b (by omega))
  have hsL : SR (lgApp M1 (S + 1 + 1) n (nI o) (nI f) a) (S + 1) (wrW w n (nI o) (nI f) a) (n + 1) R := ⟨LR_lgApp hsM.1 (by omega) hok.1.1, RR_lgApp (by omega) hsM.2 (by omega) (by omega)⟩
  have hfro : (mI N (S + 1 + 7 + 1)) n = -6 ∧ (mI N (S + 1 + 7 + 2)) n = -6 := by
    obtain ⟨-, z1, z2, z3, z4, z5⟩ := hsr
    exact z4 n (Nat.le_refl _) (by omega)
  have J13 : ∃ j13 j14 j15 j16 j17 j18 j19 j20 j21, rn 87 107 [some (.ref sb), some (.ref S), some (.ref (S + 148)), some (.ref (S + 149)), some (.ref (S + 150)), some (.ref (S + 151)), some (.ref (S + 152)), some (.ref (S + 153)), some (.ref (S + 154)), jk9, some (.int (x)), some (.int (nI kd)), x12, jk13, jk14, jk15, jk16, jk17, jk18, jk19, jk20, jk21] [] N = rn 87 872 [some (.ref sb), some (.ref S), some (.ref (S + 148)), some (.ref (S + 149)), some (.ref (S + 150)), some (.ref (S + 151)), some (.ref (S + 152)), some (.ref (S + 153)), some (.ref (S + 154)), jk9, some (.int (x)), some (.int (nI kd)), x12, j13, j14, j15, j16, j17, j18, j19, j20, j21] [] N' := ⟨_, _, _, _, _, _, _, _, _, s1.trans (s2.trans (s3.trans (s4.trans (s5.trans s6))))⟩
  obtain ⟨j13, j14, j15, j16, j17, j18, j19, j20, j21, J13⟩ := J13
  refine ⟨N', j13, j14, j15, j16, j17, j18, j19, j20, j21, h.new eN (af.2.2.fr (lw (S + 14) (by omega)).1) ⟨_, SR_same hsL (fun b b1 b2 => lg b (by omega))⟩ (by omega) h7 ?_ ?_ ?_ ?_ ?_ ?_, eN, J13⟩
  · rw [l1, l2, l3]
    intro e he
    by_cases z : e = n
    · subst z
      rw [va_up_self, va_up_self, va_up_self, cN (by omega), cN (by have := hok.1.2.1; omega)]
      exact ⟨hok.1, rfl, rfl⟩
    · rw [va_up_ne _ _ z, va_up_ne _ _ z, va_up_ne _ _ z]
      exact h8 e (by omega)
  · rw [(up (S + 1 + 7 + 5) (by omega) (by omega)).1]; exact h9
  · rw [t148, l5]
    exact ⟨va_up_self _ _ _, by rw [va_up_ne _ _ (by decide)]; exact Q1, by rw [va_up_ne _ _ (by decide)]; exact Q2⟩
  · rw [t149, l1, l2, l3, (up (S + 1 + 7 + 1) (by omega) (by omega)).1, (up (S + 1 + 7 + 2) (by omega) (by omega)).1]
    intro e he
    by_cases z : e = n
    · subst z
      rw [va_up_self, va_up_self, va_up_self, hfro.1, hfro.2]
      exact enW_at
    · rw [va_up_ne _ _ z, va_up_ne _ _ z, va_up_ne _ _ z, enW_lo (by omega), enW_lo (by omega), enW_lo (by omega), enW_lo (by omega), enW_lo (by omega)]
      exact En e (by omega)
  · rw [t150, l4]
    intro e he
    by_cases z : e = n
    · subst z; rw [va_up_self, va_up_self]
    · rw [va_up_ne _ _ z, va_up_ne _ _ z]; exact De e (by omega)
  · rw [t151, (up (S + 1 + 7 + 4) (by omega) (by omega)).1, (up (S + 1 + 7 + 5) (by omega) (by omega)).1]; exact Tr
