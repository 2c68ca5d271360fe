/-! carryOut -/
theorem commitZ {M : SM} {S sb L B : Nat} (hS : Stat M S sb L) (hh : ∃ nx k, Hist M S B nx k (mI M (S + 151)) ∧ mI M (S + 148) 3 = nI k) (hs : Slots M S B) (hp : Prp M S B) :
    ∃ M3, cl 29 [.ref (S + 14)] M = some (none, M3) ∧ Fr M M3 (S + 14) (S + 15) ∧ ∀ Mf, Mf.2.2 = M3.2.2 → (∀ b, b ≠ S + 148 → Same M3 Mf b) → mI Mf (S + 148) 3 = mI M3 (S + 148) 3 →
      ∃ M4, cl 106 [.ref (S + 148)] Mf = some (none, M4) ∧ M4.2.2 = M.2.2 ∧ (∃ nx k, Hist M4 S B nx k (mI M4 (S + 151)) ∧ mI M4 (S + 148) 3 = nI k) ∧ Slots M4 S B ∧ (∀ j, j ≠ 3 → mI M4 (S + 148) j = mI Mf (S + 148) j) ∧ ∀ b, (b < S + 14 ∨ (S + 15 ≤ b ∧ b < S + 148) ∨ (S + 149 ≤ b ∧ b < S + 151) ∨ S + 152 ≤ b) → Same M M4 b := by
  obtain ⟨nx, k, ⟨h1, h2, h3, h4, h5⟩, h6⟩ := hh
  obtain ⟨nx', n0, R0, y1, y2, y3, y4⟩ := hp
  obtain rfl : nx' = nx := by
    rw [h3, nI_inj (by omega) (by omega)] at y2
    exact y2.symm
  obtain ⟨a, b, ⟨c1, c2, c3, c4⟩, d, f, g, i, j, kk, ⟨hsb, l'⟩⟩ := id hS
  have hkeep := c_keep c1 h3 h4 h1 h2
  obtain ⟨M3, hM3⟩ : ∃ M3, M3 = sI M (S + 14) (va_up (va_up (mI M (S + 14)) 1 (nI (if nx' = 6 then 0 else nx' + 1))) 2 (nI (rcT k))) := ⟨_, rfl⟩
  rw [← hM3] at hkeep
  have hF3 : Fr M M3 (S + 14) (S + 15) := by rw [hM3]; exact Fr.sI _ (by omega) (by omega)
  refine ⟨M3, hkeep, hF3, fun Mf ef sf f3 => ?_⟩
  have hrec := c_record (M := Mf) ((kk.st hF3.1).st ef) (t := k) (by rw [f3, (hF3.2 (S + 148) (by omega)).1]; exact h6) h2
  have e151 := ((sf (S + 148 + 3) (by omega)).1).trans (hF3.2 (S + 148 + 3) (by omega)).1
  have e149 := ((sf (S + 148 + 1) (by omega)).1).trans (hF3.2 (S + 148 + 1) (by omega)).1
  refine ⟨_, hrec, ?_⟩
  have hst : (rcM Mf (S + 148) k).2.2 = M.2.2 := ef.trans hF3.1
  have r14 : mI (rcM Mf (S + 148) k) (S + 14) = va_up (va_up (mI M (S + 14)) 1 (nI (if nx' = 6 then 0 else nx' + 1))) 2 (nI (rcT k)) := by
    unfold rcM
    rw [mI_sI, if_neg (by omega), mI_sI, if_neg (by omega), (sf (S + 14) (by omega)).1, hM3, mI_sI, if_pos rfl]
  have r148 : mI (rcM Mf (S + 148) k) (S + 148) = va_up (mI Mf (S + 148)) 3 (nI (rcT k)) := by
    unfold rcM
    rw [mI_sI, if_pos rfl]
  have r151 : mI (rcM Mf (S + 148) k) (S + 151) = rcH (mI M (S + 151)) (mI M (S + 149)) k := by
    unfold rcM
    rw [mI_sI, if_neg (by omega), show S + 151 = S + 148 + 3 from rfl, mI_sI, if_pos rfl, e151, e149]
  have rest : ∀ b, (b < S + 14 ∨ (S + 15 ≤ b ∧ b < S + 148) ∨ (S + 149 ≤ b ∧ b < S + 151) ∨ S + 152 ≤ b) → Same M (rcM Mf (S + 148) k) b := by
    intro b hb
    refine ⟨?_, ?_⟩
    · unfold rcM
      rw [mI_sI, if_neg (by omega), mI_sI, if_neg (by omega), (sf b (by omega)).1]
      exact (hF3.2 b (by omega)).1
    · show mJ Mf b = mJ M b
      rw [(sf b (by omega)).2]
      exact (hF3.2 b (by omega)).2
  refine ⟨hst, ⟨if nx' = 6 then 0 else nx' + 1, rcT k, ⟨by split <;> omega, by unfold rcT; split <;> omega, ?_, ?_, ?_⟩, ?_⟩, slots_eq hs (fun b hb => rest b (by omega)), fun j hj => by rw [r148, va_up_ne _ _ hj], rest⟩
  · rw [r14, va_up_ne _ _ (by decide), va_up_self]
  · rw [r14, va_up_self]
  · intro x hx
    rw [r151]
    have go : ∀ (p n R : Nat) (w : Nat → Int32), p < 7 → R ≤ B → SR M (S + 16 + 13 * p) w n R → p = ((if nx' = 6 then 0 else nx' + 1) + 7 - rcT k + x) % 7 → (∀ j, j < 370 → rcH (mI M (S + 151)) (mI M (S + 149)) k (370 * x + j) = w j) → ∃ n R, R ≤ B ∧ SR (rcM Mf (S + 148) k) (S + 16 + 13 * (((if nx' = 6 then 0 else nx' + 1) + 7 - rcT k + x) % 7)) (fun j => rcH (mI M (S + 151)) (mI M (S + 149)) k (370 * x + j)) n R := by
      intro p n R w hp hR hw he hj
      rw [← he]
      exact ⟨n, R, hR, SR_w (SR_eq hw (fun b b1 b2 => rest b (by omega))) hj⟩
    unfold rcT at hx go ⊢
    by_cases q : k = 6
    · subst q
      simp only [↓reduceIte] at hx go ⊢
      by_cases x5 : x = 5
      · subst x5
        refine go nx' n0 R0 _ h1 y3 y4 (by split <;> omega) (fun j hj => ?_)
        unfold rcH blk
        rw [if_pos rfl, if_pos (by omega), show 0 + (370 * 5 + j - 1850) = j by omega]
      · obtain ⟨n, R, u, v⟩ := h5 (x + 1) (by omega)
        refine go _ n R _ (Nat.mod_lt _ (by decide)) u v (by split <;> omega) (fun j hj => ?_)
        unfold rcH blk
        rw [if_pos rfl, if_neg (by omega)]
        show (if 370 * x + j < 1850 then mI M (S + 151) (370 * x + j + 370) else mI M (S + 151) (370 * x + j)) = _
        rw [if_pos (by omega), show 370 * x + j + 370 = 370 * (x + 1) + j by omega]
    · simp only [q, ↓reduceIte] at hx go ⊢
      by_cases xk : x = k
      · subst xk
        refine go nx' n0 R0 _ h1 y3 y4 (by split <;> omega) (fun j hj => ?_)
        unfold rcH blk
        rw [if_neg q, if_pos (by omega)]
        congr 1
        omega
      · obtain ⟨n, R, u, v⟩ := h5 x (by omega)
        refine go _ n R _ (Nat.mod_lt _ (by decide)) u v (by split <;> omega) (fun j hj => ?_)
        unfold rcH blk
        rw [if_neg q, if_neg (by omega)]
  · rw [r148, va_up_self]
theorem fF_le {T : Nat → Int32} {l : Nat} : ∀ (n p q : Nat), p ≤ l → fF (gT T l) l n p = some q → q ≤ l := by
  intro n
  induction n with
  | zero => intro p q _ h; cases h
  | succ n ih =>
    intro p q hp h
    obtain ⟨o1, o2, o3⟩ := rdO_l (T := T) hp
    unfold fF at h
    split at h
    · split at h
      · cases h
      · split at h
        · rename_i _ _ z
          have := g_in (T := T) (l := l) (p := (rdO (gT T l) p).2.1) (by rw [z]; decide)
          exact ih _ _ (by omega) h
        · cases h; exact o2
    · cases h; exact o2
theorem p_carryOut {M : SM} {S sb L B : Nat} {xs : Nat → Int32} (h : Rel M S sb L xs B) (hB : B + 200 < 2147483648) : PairI 92 170 [] M S sb L xs (B + 90) := by
  obtain ⟨⟨K0, P0, P1, P2, P3, P4, P5, P6⟩, SN, ⟨KH, PH, KR, RG⟩, ⟨KL, SL⟩, ⟨KP, PP, KC⟩, ⟨KD, PD⟩, TQ, TW, MM, ⟨LO1, LO2, LO3, LO4⟩⟩ := id h.1.1
  obtain ⟨l, l80, p2, p3, p4⟩ := h.1.2.2.2.1
  have hA := RA_of h.1.1 l80 p2 p4
  have hRB := RB_of h.1.1 l80 p3 p4
  obtain ⟨T, hT⟩ : ∃ T, T = mI M (S + 110) := ⟨_, rfl⟩
  rw [← hT] at hA hRB
  obtain ⟨F, hF⟩ := c_fault hA
  obtain ⟨Ma, hMa⟩ : ∃ Ma, Ma = sI M (S + 108) F := ⟨_, rfl⟩
  rw [← hMa] at hF
  have fa : Fr M Ma (S + 108) (S + 109) := by rw [hMa]; exact Fr.sI _ (by omega) (by omega)
  have hRel := h.q (XF.of fa (S := S) (by omega)) (fun b h1 h2 => fa.2 b (by omega)) (fa.2 (S + 149) (by omega)).1
  have hBa := hRB.fr fa.1 (by rw [(fa.2 _ (by omega)).1]) (fa.2 _ (by omega)).1
  cases hv : fF (gT T l) l (l + 1) 0 with
  | some q =>
    have hq := fF_le (T := T) (l + 1) 0 q (Nat.zero_le _) hv
    rw [hv] at hF
    have e6 : (fV (some q) = -6) = False := n_m6' (v := q) (by omega)
    obtain ⟨G, hG, g3, g7⟩ := m_fault hBa
    rw [hv] at hG
    refine ⟨-3, Ma, sI Ma (S + 148) G, Low.of fa (by omega), ?_, ?_, ?_⟩
    · show rn 92 0 [some (.ref S), none] [] M = _
      simp only [t92_0, t92_1, t92_4, t92_7, t92_9, t92_12, t92_14, t92_15, t92_16, t92_19, t92_20, t92_23, t92_26, t92_27, t92_28, t92_29, t92_32, t92_36, t92_38, t92_41, t92_42, t92_45, t92_48, t92_51, t92_52, t92_55, t92_58, t92_61, t92_62, t92_65, t92_67, t92_70, t92_71, t92_74, t92_75, t92_78, t92_81, t92_84, t92_85, t92_86, t92_87, t92_90, K0, P3, KD, va_rf_s, hF, cbn_i, e6, ↓reduceIte]
    · show rn 170 0 [some (.ref (S + 148)), none, none] [] Ma = _
      simp only [t170_0, t170_1, t170_4, t170_6, t170_9, t170_11, t170_12, t170_13, t170_16, t170_17, t170_18, t170_19, t170_20, t170_23, t170_24, t170_26, t170_29, t170_30, t170_33, t170_34, t170_37, t170_40, t170_41, t170_44, t170_45, t170_46, t170_48, t170_51, t170_52, t170_53, t170_56, t170_59, t170_60, t170_63, t170_64, t170_65, t170_66, t170_69, t170_70, t170_73, t170_76, t170_79, t170_80, t170_81, t170_84, t170_85, KK fa.1, MM.1, hG, cbn_i, e6, ↓reduceIte]
    · have hq : Rel (sI Ma (S + 148) G) S sb L xs B := hRel.q ⟨rfl, fun b hb => ⟨by rw [mI_sI, if_neg (by omega)], rfl⟩, by rw [mI_sI, if_pos rfl]; exact g3, by rw [mI_sI, if_pos rfl]; exact g7⟩ (fun b h1 h2 => ⟨by rw [mI_sI, if_neg (by omega)], rfl⟩) (by rw [mI_sI, if_neg (by omega)])
      exact hq.up (by omega)
  | none =>
    rw [hv] at hF
    have e6 : (fV none = -6) = True := eq_true rfl
    obtain ⟨Mb, b1, b2, b3, b4⟩ := c_prepare hRel
    obtain ⟨hXb, nb, Rb, hRb, hNb⟩ := id b2
    have ab : ∀ b, (b < S + 16 ∨ (S + 107 ≤ b ∧ b < S + 108) ∨ S + 109 ≤ b) → Same M Mb b := fun b hb => ⟨((b3.2 b (by omega)).1).trans (fa.2 b (by omega)).1, ((b3.2 b (by omega)).2).trans (fa.2 b (by omega)).2⟩
    have eb : Mb.2.2 = M.2.2 := b3.1.trans fa.1
    obtain ⟨Mc, hMc⟩ : ∃ Mc, Mc = sI Mb (S + 108) (va_up (mI Mb (S + 108)) 1 0) := ⟨_, rfl⟩
    have fc : Fr Mb Mc (S + 108) (S + 109) := by rw [hMc]; exact Fr.sI _ (by omega) (by omega)
    have ec : Mc.2.2 = M.2.2 := fc.1.trans eb
    have hbg : cl 81 [.ref (S + 108)] Mb = some (none, Mc) := by
      show rn 81 0 [some (.ref (S + 108))] [] Mb = _
      simp only [t81_0, t81_1, t81_2, t81_5, KK eb, KD, ↓reduceIte]
      rw [← hMc]
    have hAc : RA Mc S l T := (hA.fr eb (ab _ (by omega)).1 (ab _ (by omega)).1).fr fc.1 (fc.2 _ (by omega)).1 (fc.2 _ (by omega)).1
    have hNc : SR Mc (S + 1) (mI Mb (S + 149)) nb Rb := SR_fr hNb fc (by omega)
    obtain ⟨k, C', r1, r2, r3, r4⟩ := carryL (l := l) (T := T) (l + 1) 0 0 B Mc (h.1.1.st ec) hAc (by rw [hMc, mI_sI, if_pos rfl, va_up_self]; rfl) ⟨_, nb, Rb, hRb, hNc⟩ (by omega) (by omega) hv (Nat.zero_le _) (by omega)
    have eC : C'.2.2 = M.2.2 := r2.1.trans ec
    obtain ⟨Md, hMd⟩ : ∃ Md, Md = sI C' (S + 109) (va_up (mI C' (S + 109)) 1 0) := ⟨_, rfl⟩
    have ed : Md.2.2 = M.2.2 := by rw [hMd]; exact eC
    have hclr : cl 78 [.ref (S + 109)] C' = some (some (.int (mI C' (S + 109) 1)), Md) := by
      show rn 78 0 [some (.ref (S + 109)), none] [] C' = _
      simp only [t78_0, t78_1, t78_4, t78_5, t78_6, t78_7, t78_10, t78_11, KK eC, KP, ↓reduceIte]
      rw [← hMd]
    have cd : ∀ b, b ≠ S + 109 → Same C' Md b := fun b hb => by rw [hMd]; exact ⟨by rw [mI_sI, if_neg hb], rfl⟩
    -- Md against Mb
    have bd : ∀ b, b ≠ S + 109 → (b < S + 2 ∨ (S + 14 ≤ b ∧ b < S + 108) ∨ S + 109 ≤ b) → Same Mb Md b := fun b hb hb2 => by
      have x := cd b hb
      have y := r2.2 b hb2
      have z := fc.2 b (by omega)
      exact ⟨x.1.trans (y.1.trans z.1), x.2.trans (y.2.trans z.2)⟩
    have hhd := hist_eq hXb.2.1 (fun b hb => bd b (by omega) (by omega)) (by rw [(bd (S + 148) (by omega) (by omega)).1])
    have hsd := slots_eq hXb.2.2.1 (fun b hb => bd b (by omega) (by omega))
    have hpd : Prp Md S B := by
      obtain ⟨nx, n, R, x1, x2, x3, x4⟩ := b4
      refine ⟨nx, n, R, x1, ?_, x3, ?_⟩
      · rw [(bd (S + 14) (by omega) (by omega)).1]; exact x2
      · rw [(bd (S + 149) (by omega) (by omega)).1]; exact SR_eq x4 (fun b b1 b2 => bd b (by omega) (by omega))
    obtain ⟨Me, k1, k2, k3⟩ := commitZ (h.1.1.st ed) hhd hsd hpd
    have ee : Me.2.2 = M.2.2 := k2.1.trans ed
    have hrec := c_rec1 (S := S) (a := nI k) (M := Md) (M3 := Me) (nI_pos (by omega)) (by rw [KK ed]; exact K0) (by rw [PK ed]; exact P1) (by rw [KK ed]; exact KH) k1
    -- the reference
    have se : ∀ b, S + 120 ≤ b → Same M Me b := fun b hb => by
      have x := k2.2 b (by omega)
      have y := bd b (by omega) (by omega)
      have z := ab b (by omega)
      exact ⟨x.1.trans (y.1.trans z.1), x.2.trans (y.2.trans z.2)⟩
    have hBe := hRB.fr ee (by rw [(se (S + 148) (by omega)).1]) (se (S + 148 + 6) (by omega)).1
    obtain ⟨G, hG, g3, g7⟩ := m_fault hBe
    rw [hv] at hG
    obtain ⟨Mf, hMf⟩ : ∃ Mf, Mf = sI Me (S + 148) G := ⟨_, rfl⟩
    rw [← hMf] at hG
    have ef : Mf.2.2 = Me.2.2 := by rw [hMf]; rfl
    have sf : ∀ b, b ≠ S + 148 → Same Me Mf b := fun b hb => by rw [hMf]; exact ⟨by rw [mI_sI, if_neg hb], rfl⟩
    have f148 : mI Mf (S + 148) = G := by rw [hMf, mI_sI, if_pos rfl]
    obtain ⟨Mg, m1, m2, m3, m4, m5, m6⟩ := k3 Mf ef sf (by rw [f148]; exact g3)
    have eg : Mg.2.2 = M.2.2 := m2.trans ed
    obtain ⟨Mh, hMh⟩ : ∃ Mh, Mh = sI Mg (S + 148) (va_up (mI Mg (S + 148)) 11 0) := ⟨_, rfl⟩
    have eh : Mh.2.2 = M.2.2 := by rw [hMh]; exact eg
    have sh : ∀ b, b ≠ S + 148 → Same Mg Mh b := fun b hb => by rw [hMh]; exact ⟨by rw [mI_sI, if_neg hb], rfl⟩
    have h148 : mI Mh (S + 148) = va_up (mI Mg (S + 148)) 11 0 := by rw [hMh, mI_sI, if_pos rfl]
    have g148 : mI Mg (S + 148) 7 = nI l := by rw [m5 7 (by decide), f148, g7]; exact hBe.2.2.1
    have sdh : ∀ b, ((S + 15 ≤ b ∧ b < S + 148) ∨ b < S + 14 ∨ (S + 149 ≤ b ∧ b < S + 151) ∨ S + 152 ≤ b) → Same Md Mh b := fun b hb => by
      have x := sh b (by omega)
      have y := m6 b (by omega)
      exact ⟨x.1.trans y.1, x.2.trans y.2⟩
    have hBh : RB Mh (S + 148) l T := by
      refine ⟨MM.st eh, l80, ?_, ?_, hRB.2.2.2.2⟩
      · rw [h148, va_up_ne _ _ (by decide)]; exact g148
      · have x := sdh (S + 148 + 6) (by omega)
        have y := bd (S + 148 + 6) (by omega) (by omega)
        have z := ab (S + 148 + 6) (by omega)
        rw [x.1, y.1, z.1]
        exact hRB.2.2.2.1
    have wH : mI Mh (S + 148 + 1) = mI Mb (S + 149) := by
      rw [(sdh (S + 148 + 1) (by omega)).1]; exact (bd (S + 149) (by omega) (by omega)).1
    obtain ⟨N', gg, u1, u2, n', R', u3, u4⟩ := r4 Mh hBh (by rw [h148, va_up_self]; rfl) ⟨nb, Rb, hRb, by rw [wH]; exact hNc⟩
    have eN : N'.2.2 = M.2.2 := u2.1.trans eh
    obtain ⟨Mi, hMi⟩ : ∃ Mi, Mi = sI N' (S + 148) (va_up (mI N' (S + 148)) 7 0) := ⟨_, rfl⟩
    have ei : Mi.2.2 = M.2.2 := by rw [hMi]; exact eN
    have si : ∀ b, b ≠ S + 148 → Same N' Mi b := fun b hb => by rw [hMi]; exact ⟨by rw [mI_sI, if_neg hb], rfl⟩
    have i148 : mI Mi (S + 148) = va_up (mI N' (S + 148)) 7 0 := by rw [hMi, mI_sI, if_pos rfl]
    refine ⟨nI k, Me, Mi, ⟨ee, fun b hb => ((k2.2 b (by omega)).1).trans (((bd b (by omega) (by omega)).1).trans (ab b (by omega)).1)⟩, ?_, ?_, ?_⟩
    · show rn 92 0 [some (.ref S), none] [] M = _
      have z : nI 0 = 0 := rfl
      rw [z] at r1
      simp only [t92_0, t92_1, t92_4, t92_7, t92_9, t92_15, t92_16, t92_19, t92_20, t92_23, t92_26, t92_27, t92_28, t92_29, t92_32, K0, P0, P1, P3, KD, KH, va_rf_s, hF, e6, KK fa.1, PK fa.1, b1, KK eb, PK eb, hbg, cbn_i, cbn_v, ↓reduceIte]
      rw [r1]
      simp only [t92_74, t92_75, t92_78, t92_81, t92_84, t92_85, t92_86, t92_87, t92_90, KK eC, PK eC, KK ed, PK ed, K0, P3, KD, P4, KP, va_rf_s, hclr, hrec, cbn_i, ↓reduceIte]
    · show rn 170 0 [some (.ref (S + 148)), none, none] [] Me = _
      have z : nI 0 = 0 := rfl
      rw [z] at u1
      simp only [t170_0, t170_1, t170_4, t170_6, t170_12, t170_13, t170_16, t170_17, t170_18, t170_19, t170_20, t170_23, t170_24, KK ee, KK ef, KK eg, MM.1, hG, e6, m1, cbn_i, cbn_v, ↓reduceIte]
      rw [← hMh, u1]
      simp only [t170_79, t170_80, t170_81, t170_84, t170_85, KK eN, MM.1, ↓reduceIte]
      rw [← hMi]
    · have sdi : ∀ b, ((S + 15 ≤ b ∧ b < S + 148) ∨ b < S + 14 ∨ b = S + 150 ∨ (S + 152 ≤ b ∧ b < S + 155)) → Same Md Mi b := fun b hb => by
        have x := si b (by omega)
        have y := u2.2.1 b (by omega) (by omega) (by omega)
        have z := sdh b (by omega)
        exact ⟨x.1.trans (y.1.trans z.1), x.2.trans (y.2.trans z.2)⟩
      have sgi : ∀ b, b ≠ S + 148 → b ≠ S + 149 → b ≠ S + 155 → Same Mg Mi b := fun b h1 h2 h3 => by
        have x := si b (by omega)
        have y := u2.2.1 b (by omega) (by omega) (by omega)
        have z := sh b (by omega)
        exact ⟨x.1.trans (y.1.trans z.1), x.2.trans (y.2.trans z.2)⟩
      refine ⟨⟨h.1.1.st ei, ?_, ?_, ⟨0, by decide, ?_, ?_, fun j hj => by omega⟩, ?_⟩, n', R', by omega, ?_⟩
      · obtain ⟨nx, kk, hh, h3⟩ := hist_eq m3 (fun b hb => sgi b (by omega) (by omega) (by omega)) (by rw [i148, va_up_ne _ _ (by decide), u2.2.2.1, h148, va_up_ne _ _ (by decide)])
        refine ⟨nx, kk, ⟨hh.1, hh.2.1, hh.2.2.1, hh.2.2.2.1, fun i hi => ?_⟩, h3⟩
        obtain ⟨n2, R2, v1, v2⟩ := hh.2.2.2.2 i hi
        exact ⟨n2, R2, by omega, v2⟩
      · have := slots_eq m4 (M' := Mi) (fun b hb => sgi b (by omega) (by omega) (by omega))
        intro i hi
        refine ⟨(this i hi).1, ?_⟩
        rcases (this i hi).2 with v | ⟨v, n2, R2, v1, v2⟩
        · exact Or.inl v
        · exact Or.inr ⟨v, n2, R2, by omega, v2⟩
      · rw [(sdi (S + 109) (by omega)).1, hMd, mI_sI, if_pos rfl, va_up_self]; rfl
      · rw [i148, va_up_self]; rfl
      · rw [(sdi sb (by omega)).1]
        have x := bd sb (by omega) (by omega)
        have z := ab sb (by omega)
        rw [x.1, z.1]; exact h.1.2.2.2.2
      · rw [(si (S + 149) (by omega)).1]
        refine SR_eq u4 (fun b b1 b2 => ?_)
        have x := sdi b (by omega)
        have y := cd b (by omega)
        exact ⟨x.1.trans y.1, x.2.trans y.2⟩
