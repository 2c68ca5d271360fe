/-! the law's comparison: a replay on trial -/
theorem mkR_rows (M : SM) (r h n : Nat) {s : RS} (hs : s = rrS (mI M (h + 1)) (mI M (h + 2)) (mI M (h + 3)) (rdM M r h n) (mI M r 2) (rS0 M r) n) :
    mI (mkR M r h n) r = va_up (va_up (mI M r) 3 (if mI M r 3 < nI (cnt (bt (rdM M r h n)) 64) then nI (cnt (bt (rdM M r h n)) 64) else mI M r 3)) 2 (mI M r 2 + 1) ∧
    mI (mkR M r h n) (r + 1) = s.2.1 ∧ mI (mkR M r h n) (r + 2) = s.2.2.1 ∧ mI (mkR M r h n) (r + 3) = mI M (r + 3) ∧ mI (mkR M r h n) (r + 4) = s.2.2.2.1 ∧ mI (mkR M r h n) (r + 5) = s.2.2.2.2 ∧
    mJ (mkR M r h n) r = va_up (va_up (mJ M r) 1 s.1) 0 (mJ M r 0 ||| rdM M r h n) := by
  unfold mkR
  rw [← hs]
  unfold rrF
  refine ⟨by rw [mI_sI, if_pos rfl], ?_, ?_, ?_, ?_, ?_, by rw [mJ_sI, mJ_sJ, if_pos rfl]⟩
  · rw [mI_sI, if_neg (by omega), mI_sJ, rMem_1]
  · rw [mI_sI, if_neg (by omega), mI_sJ, rMem_2]
  · rw [mI_sI, if_neg (by omega), mI_sJ, rMem_n _ _ _ (by omega)]
  · rw [mI_sI, if_neg (by omega), mI_sJ, rMem_4]
  · rw [mI_sI, if_neg (by omega), mI_sJ, rMem_5]
theorem mkR_loc {M N : SM} {r h n : Nat} (hd : h + 6 ≤ r) (e : ∀ b, b < r + 6 → Same M N b) : rdM N r h n = rdM M r h n ∧ ∀ b, b < r + 6 → Same (mkR M r h n) (mkR N r h n) b := by
  have hrd : rdM N r h n = rdM M r h n := by
    unfold rdM
    rw [(e (h + 4) (by omega)).2, (e h (by omega)).2, (e r (by omega)).2]
  have hs0 : rS0 N r = rS0 M r := by
    unfold rS0
    rw [(e r (by omega)).2, (e (r + 1) (by omega)).1, (e (r + 2) (by omega)).1, (e (r + 4) (by omega)).1, (e (r + 5) (by omega)).1]
  refine ⟨hrd, ?_⟩
  obtain ⟨s, hs⟩ : ∃ s, s = rrS (mI M (h + 1)) (mI M (h + 2)) (mI M (h + 3)) (rdM M r h n) (mI M r 2) (rS0 M r) n := ⟨_, rfl⟩
  have hsN : s = rrS (mI N (h + 1)) (mI N (h + 2)) (mI N (h + 3)) (rdM N r h n) (mI N r 2) (rS0 N r) n := by
    rw [hrd, hs0, (e (h + 1) (by omega)).1, (e (h + 2) (by omega)).1, (e (h + 3) (by omega)).1, (e r (by omega)).1]
    exact hs
  obtain ⟨m0, m1, m2, m3, m4, m5, m6⟩ := mkR_rows M r h n hs
  obtain ⟨p0, p1, p2, p3, p4, p5, p6⟩ := mkR_rows N r h n hsN
  rw [hrd, (e r (by omega)).1] at p0
  rw [(e (r + 3) (by omega)).1] at p3
  rw [hrd, (e r (by omega)).2] at p6
  intro b hb
  constructor
  · by_cases q : b < r
    · rw [mkR_I (by omega), mkR_I (by omega)]; exact (e b hb).1
    · have : b = r ∨ b = r + 1 ∨ b = r + 2 ∨ b = r + 3 ∨ b = r + 4 ∨ b = r + 5 := by omega
      rcases this with rfl | rfl | rfl | rfl | rfl | rfl
      · rw [p0, m0]
      · rw [p1, m1]
      · rw [p2, m2]
      · rw [p3, m3]
      · rw [p4, m4]
      · rw [p5, m5]
  · by_cases q : b = r
    · subst q; rw [p6, m6]
    · rw [mkR_J q, mkR_J q]; exact (e b hb).2
theorem rClr_loc {M N : SM} {r : Nat} (e : ∀ b, b < r + 6 → Same M N b) : ∀ b, b < r + 6 → Same (rClr M r) (rClr N r) b := by
  intro b hb
  unfold rClr
  constructor
  · simp only [mI_sI, mI_sJ, mJ_sI, mJ_sJ]
    rw [(e r (by omega)).1, (e (r + 1) (by omega)).1, (e (r + 2) (by omega)).1, (e (r + 4) (by omega)).1, (e (r + 5) (by omega)).1, (e b hb).1]
  · simp only [mI_sI, mI_sJ, mJ_sI, mJ_sJ]
    rw [(e r (by omega)).2, (e b hb).2]
theorem itR_loc {M N : SM} {r h n : Nat} (hd : h + 6 ≤ r) (e : ∀ b, b < r + 6 → Same M N b) : ∀ i, rdM (itR (rClr N r) r h n i) r h n = rdM (itR (rClr M r) r h n i) r h n ∧ ∀ b, b < r + 6 → Same (itR (rClr M r) r h n i) (itR (rClr N r) r h n i) b := by
  intro i
  induction i with
  | zero => exact ⟨(mkR_loc hd (rClr_loc e)).1, rClr_loc e⟩
  | succ i ih =>
    have g := (mkR_loc (n := n) hd ih.2).2
    exact ⟨(mkR_loc hd g).1, g⟩
theorem k_roundG {C : SM} {h r n R : Nat} {w : Nat → Int32} (hd : h + 6 ≤ r) (hL : LR C h w n) (hR : RR C r w n R) (hb : R + 1 < 2147483648) : ∃ w', LR (mkR C r h n) h w' n ∧ RR (mkR C r h n) r w' n (R + 1) := by
  have n40 := hL.2.1
  obtain ⟨e, hst⟩ := round_step (r := r) (h := h) hd hL hR hb
  obtain ⟨x, hx⟩ : ∃ x : RS, x = rrS (mI C (h + 1)) (mI C (h + 2)) (mI C (h + 3)) (rRd w n) (w 1) (rS0 C r) n := ⟨_, rfl⟩
  have hti : TI x.2.2.2.1 x.2.2.2.2 := by
    rw [hx]; exact TI_rr hL.2.2.2.1 hR.2.2.2.2.2.2.2.2.2 n (Nat.le_refl _)
  rw [← hx] at hst
  exact ⟨_, hst (gW w x.2.1 x.2.2.1 x.2.2.2.1 x.2.2.2.2 n (w 1)) ⟨fun j h1 h2 => by
    by_cases q : j = 1
    · subst q; exact gW_1 _ _ _ _ _ _ _
    · exact gW_k q h1 h2, fun e he => gW_e he n40, gW_t _ _ _ _ _ _ _, hti⟩⟩
theorem RR_dat {M : SM} {r n R : Nat} {w : Nat → Int32} (h : RR M r w n R) (hR : R ≤ 100000) :
    RoB (mI M (r + 1)) n ∧ (∀ e, bt (mJ M r 0) e = (decide (e < n) && !decide (mI M (r + 1) e = -6))) ∧ mI M r 2 = nI R ∧ TI (mI M (r + 4)) (mI M (r + 5)) := by
  obtain ⟨r1, r2, r3, r4, r5, r6, r7, r8, r9, r10⟩ := h
  refine ⟨fun e he => ?_, r6, r2, r10⟩
  rcases r5 e he with h | ⟨i, hi, h⟩
  · exact Or.inl h
  · exact Or.inr ⟨i, by omega, h⟩
/-- the trial's rows, round by round -/
theorem t_dat {N : SM} {S n R : Nat} {w : Nat → Int32} (hN : SR N (S + 1) w n R) : ∀ i, i ≤ 1000 → ∃ w', LR (itR (rClr N (S + 111)) (S + 111) (S + 1 + 1) n i) (S + 1 + 1) w' n ∧ RR (itR (rClr N (S + 111)) (S + 111) (S + 1 + 1) n i) (S + 111) w' n i := by
  intro i
  induction i with
  | zero =>
    intro _
    have n40 := hN.1.2.1
    refine ⟨gW w (fun _ => -6) (fun _ => -6) D0 V0 n 0, ?_, ?_⟩
    · exact LR_fr ⟨hN.1.1, LR_keep hN.1.2 (gW_k (by decide) (by decide) (fun e he => ⟨by omega, by omega⟩)) (fun e he p hp p4 p5 => gW_k (by omega) (by omega) (fun e' he' => ⟨by omega, by omega⟩))⟩ (Fr_rClr N (S + 111)) (by omega)
    · exact RR_clr n40 (gW_1 _ _ _ _ _ _ _) (fun e he => gW_e he n40) (gW_t _ _ _ _ _ _ _)
  | succ i ih =>
    intro hi
    obtain ⟨w', a, b⟩ := ih (by omega)
    exact k_roundG (by omega) a b (by omega)
/-- the law's rounds on trial beside the class's -/
theorem d_rounds {M N : SM} {S sb L n R B j : Nat} (h : R9 M S sb L n R) (hF : Fq M N S) (hB : S + 155 ≤ B) (j40 : j ≤ 40) (j1 : ∀ i, i < j → ¬ rdM (itR (rClr N (S + 111)) (S + 111) (S + 1 + 1) n i) (S + 111) (S + 1 + 1) n = 0) (j2 : rdM (itR (rClr N (S + 111)) (S + 111) (S + 1 + 1) n j) (S + 111) (S + 1 + 1) n = 0) (jk8 jk9 jk10 jk11 jk12 jk13 jk14 jk15 jk16 jk17 jk18 jk19 jk20 jk21 jk22 jk23 : Option Value) :
    ∀ m i, m + i = j → ∀ Q : SM, mK Q (S + 148) = (1, 3) → mK Q (S + 153) = (1, 60) → mK Q (S + 154) = (1, 3) → mK Q (S + 150) = (1, 12) → mK Q B = (1, 12) →
      QR (mI Q (S + 154)) n i (mJ M (S + 1 + 1) 1) → EnR (mI Q (S + 153)) (mI M (S + 1 + 1 + 1)) (mI M (S + 1 + 1 + 2)) (mI M (S + 1 + 1 + 3)) (mI (itR (rClr N (S + 111)) (S + 111) (S + 1 + 1) n i) (S + 111 + 1)) (mI (itR (rClr N (S + 111)) (S + 111) (S + 1 + 1) n i) (S + 111 + 2)) n → DeR (mI Q (S + 150)) (mJ M (S + 1 + 1 + 4)) n → TrR (mI Q B) (mI (itR (rClr N (S + 111)) (S + 111) (S + 1 + 1) n i) (S + 111 + 4)) (mI (itR (rClr N (S + 111)) (S + 111) (S + 1 + 1) n i) (S + 111 + 5)) → Six (mI (itR (rClr N (S + 111)) (S + 111) (S + 1 + 1) n i) (S + 111 + 5)) →
      ∃ Q', rn 69 917 [some (.ref S), some (.ref (S + 148)), some (.ref (S + 149)), some (.ref (S + 150)), some (.ref (S + 151)), some (.ref (S + 152)), some (.ref (S + 153)), some (.ref (S + 154)), jk8, jk9, jk10, jk11, jk12, jk13, jk14, jk15, some (.int (0)), some (.ref B), jk18, jk19, jk20, jk21, jk22, jk23] [] Q = rn 69 942 [some (.ref S), some (.ref (S + 148)), some (.ref (S + 149)), some (.ref (S + 150)), some (.ref (S + 151)), some (.ref (S + 152)), some (.ref (S + 153)), some (.ref (S + 154)), jk8, jk9, jk10, jk11, jk12, jk13, jk14, jk15, some (.int (0)), some (.ref B), jk18, jk19, jk20, jk21, jk22, jk23] [] Q' ∧ Q'.2.2 = Q.2.2 ∧ (∀ b, b ≠ S + 153 → b ≠ S + 154 → b ≠ B → Same Q Q' b) ∧ TrR (mI Q' B) (mI (itR (rClr N (S + 111)) (S + 111) (S + 1 + 1) n j) (S + 111 + 4)) (mI (itR (rClr N (S + 111)) (S + 111) (S + 1 + 1) n j) (S + 111 + 5)) ∧ Six (mI (itR (rClr N (S + 111)) (S + 111) (S + 1 + 1) n j) (S + 111 + 5)) := by
  have n12 : n ≤ 12 := h.2.2.2.2.2.1
  obtain ⟨hb, hl, hlo, hrb, hrp, hrf, hrd, hwd, hti, hro⟩ := h.s
  have wlo : w12 (mJ M (S + 1 + 1) 1) := w12_of hlo n12
  obtain ⟨⟨kq, ke, kd, kt, ko, ky, kp⟩, ⟨Q0, Q1, Q2⟩, En, De, Tr, k0⟩ := h.n hF
  have one0 : ((1 : Int32) = 0) = False := by decide
  have z01 : ((0 : Int32) = 1) = False := by decide
  have lnk : ∀ x, x ≤ 12 → (nI n ≤ nI x) = (n ≤ x) := fun x hx => lE (by omega) (by omega)
  have hS : EnS (mI M (S + 1 + 1 + 1)) (mI M (S + 1 + 1 + 2)) (mI M (S + 1 + 1 + 3)) n := h.2.2.2.2.2.2.2.1
  obtain ⟨g0, g1, g2, g3, g4, g5, g6, g7, g8, g9, g10, g11, g12, g13, g14, g15, g16⟩ := hF.rows
  obtain ⟨w, hw⟩ := (h.q hF).2.2.1
  have hfr := Fr_rClr N (S + 111)
  have tI : ∀ i b, b < S + 111 → mI (itR (rClr N (S + 111)) (S + 111) (S + 1 + 1) n i) b = mI N b := fun i b hb => (itR_I (by omega) i).trans (hfr.2 b (by omega)).1
  have tJ : ∀ i b, b < S + 111 → mJ (itR (rClr N (S + 111)) (S + 111) (S + 1 + 1) n i) b = mJ N b := fun i b hb => (itR_J (by omega) i).trans (hfr.2 b (by omega)).2
  have hrdy : ∀ i, rdM (itR (rClr N (S + 111)) (S + 111) (S + 1 + 1) n i) (S + 111) (S + 1 + 1) n = rdyB (mJ M (S + 1 + 1 + 4)) n (mJ M (S + 1 + 1) 1) (mJ (itR (rClr N (S + 111)) (S + 111) (S + 1 + 1) n i) (S + 111) 0) := fun i => by
    unfold rdM
    rw [tJ i (S + 1 + 1 + 4) (by omega), tJ i (S + 1 + 1) (by omega), g3, g5]
  intro m
  induction m with
  | zero =>
    intro i hi Q k8 k3 k4 k0' kB hQ hE hD hT h6
    obtain rfl : i = j := by omega
    obtain ⟨w', -, hr⟩ := t_dat hw i (by omega)
    obtain ⟨d1, d2, d3, d4⟩ := RR_dat hr (by omega)
    have hry := c_ready3 k4 k3 k0' n12 hQ.1 hQ.2.2 wlo (fun e he => (hE e he).2.2.2.1) d1 d2 hD hb
    rw [← hrdy, j2] at hry
    have s0 : s32 0 = 0 := by decide
    rw [s0] at hry
    refine ⟨Q, ?_, rfl, fun _ _ _ _ => ⟨rfl, rfl⟩, hT, h6⟩
    rw [t69_917]
    simp only [t69_919, t69_921, t69_922, t69_925, hry, cbn_i, ↓reduceIte]
  | succ m ih =>
    intro i hi Q k8 k3 k4 k0' kB hQ hE hD hT h6
    obtain ⟨w', hlr, hr⟩ := t_dat hw i (by omega)
    obtain ⟨d1, d2, d3, d4⟩ := RR_dat hr (by omega)
    have hry := c_ready3 k4 k3 k0' n12 hQ.1 hQ.2.2 wlo (fun e he => (hE e he).2.2.2.1) d1 d2 hD hb
    rw [← hrdy] at hry
    have hne := j1 i (by omega)
    have wr : w12 (rdM (itR (rClr N (S + 111)) (S + 111) (S + 1 + 1) n i) (S + 111) (S + 1 + 1) n) := by rw [hrdy]; exact w12_mk n12
    have hne' : (s32 (rdM (itR (rClr N (S + 111)) (S + 111) (S + 1 + 1) n i) (S + 111) (S + 1 + 1) n) = 0) = False := by rw [s32_0 wr]; exact eq_false hne
    obtain ⟨m0, m1, m2, m3, m4, m5, m6⟩ := mkR_rows (itR (rClr N (S + 111)) (S + 111) (S + 1 + 1) n i) (S + 111) (S + 1 + 1) n rfl
    rw [tI i (S + 1 + 1 + 1) (by omega), tI i (S + 1 + 1 + 2) (by omega), tI i (S + 1 + 1 + 3) (by omega), g0, g1, g2, d3] at m1 m2 m4 m5
    obtain ⟨E', T', p1, p2, p3, p4⟩ := c_round3 (M := Q) (q := S + 154) (E := S + 153) (d := S + 150) (t := B) (R := i) (rp := mJ (itR (rClr N (S + 111)) (S + 111) (S + 1 + 1) n i) (S + 111) 0) (rf := mJ (itR (rClr N (S + 111)) (S + 111) (S + 1 + 1) n i) (S + 111) 1) k4 k3 k0' kB (by omega) (by omega) (by omega) n12 hQ wlo hE d1 d2 hD hb hS hT d4 h6 (hrdy i) rfl
    have hs0 : (mJ (itR (rClr N (S + 111)) (S + 111) (S + 1 + 1) n i) (S + 111) 1, mI (itR (rClr N (S + 111)) (S + 111) (S + 1 + 1) n i) (S + 111 + 1), mI (itR (rClr N (S + 111)) (S + 111) (S + 1 + 1) n i) (S + 111 + 2), mI (itR (rClr N (S + 111)) (S + 111) (S + 1 + 1) n i) (S + 111 + 4), mI (itR (rClr N (S + 111)) (S + 111) (S + 1 + 1) n i) (S + 111 + 5)) = rS0 (itR (rClr N (S + 111)) (S + 111) (S + 1 + 1) n i) (S + 111) := rfl
    rw [hs0] at p2 p3 p4
    rw [← m1, ← m2] at p2
    rw [← m4, ← m5] at p3
    have p46 : Six (mI (mkR (itR (rClr N (S + 111)) (S + 111) (S + 1 + 1) n i) (S + 111) (S + 1 + 1) n) (S + 111 + 5)) := by rw [m5]; exact p4.2
    obtain ⟨Q1, hQ1⟩ : ∃ Q1, Q1 = sI (sI (sI Q (S + 153) E') B T') (S + 154) (va_up (mI Q (S + 154)) 1 (nI (i + 1))) := ⟨_, rfl⟩
    rw [← hQ1] at p1
    have kQ : mK Q1 = mK Q := by rw [hQ1]; rfl
    have r154 : mI Q1 (S + 154) = va_up (mI Q (S + 154)) 1 (nI (i + 1)) := by rw [hQ1, mI_sI, if_pos rfl]
    have rB : mI Q1 B = T' := by rw [hQ1, mI_sI, if_neg (by omega), mI_sI, if_pos rfl]
    have r153 : mI Q1 (S + 153) = E' := by rw [hQ1, mI_sI, if_neg (by omega), mI_sI, if_neg (by omega), mI_sI, if_pos rfl]
    have rest : ∀ b, b ≠ S + 153 → b ≠ S + 154 → b ≠ B → Same Q Q1 b := fun b h1 h2 h3 => ⟨by rw [hQ1, mI_sI, if_neg h2, mI_sI, if_neg h3, mI_sI, if_neg h1], by rw [hQ1]; rfl⟩
    obtain ⟨Q', q1, q2, q3, q4⟩ := ih (i + 1) (by omega) Q1 (by rw [kQ]; exact k8) (by rw [kQ]; exact k3) (by rw [kQ]; exact k4) (by rw [kQ]; exact k0') (by rw [kQ]; exact kB)
      (by rw [r154]; exact ⟨by rw [va_up_ne _ _ (by decide)]; exact hQ.1, va_up_self _ _ _, by rw [va_up_ne _ _ (by decide)]; exact hQ.2.2⟩) (by rw [r153]; exact p2) (by rw [(rest (S + 150) (by omega) (by omega) (by omega)).1]; exact hD) (by rw [rB]; exact p3) p46
    refine ⟨Q', ?_, q2.trans (by rw [hQ1]; rfl), fun b h1 h2 h3 => ⟨(q3 b h1 h2 h3).1.trans (rest b h1 h2 h3).1, (q3 b h1 h2 h3).2.trans (rest b h1 h2 h3).2⟩, q4⟩
    rw [t69_917]
    simp only [t69_919, t69_921, t69_922, t69_925, t69_928, t69_930, t69_932, t69_933, t69_935, t69_938, t69_939, hry, cbn_i, hne', ↓reduceIte, p1]
    exact q1
