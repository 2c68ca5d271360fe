/-! the fault of a text -/
def goodR (l : Nat) (f : Nat → Option (Nat × Nat)) : Prop := ∀ q a q', f q = some (a, q') → q < q' ∧ q' ≤ l
theorem goodF {T : Nat → Int32} {l : Nat} : goodR l (rdF (gT T l)) := by
  intro q a q' h
  unfold rdF at h
  split at h
  · rename_i hf
    cases h
    have := (hg_F (T := T) (l := l) (p := q)).2 hf
    omega
  · cases h
theorem goodN {T : Nat → Int32} {l : Nat} : goodR l (rdN (gT T l)) := by
  intro q a q' h
  obtain ⟨-, h1, -, h2⟩ := rdN_v h
  have := (hg_D (T := T) (l := l) (p := q' - 1)).2 (h2 (q' - 1) (by omega) (by omega))
  omega
abbrev okO (l p : Nat) (r : Bool × Nat × Nat × Nat) : Prop := p ≤ r.2.1 ∧ r.2.1 ≤ l ∧ (r.1 = true → p < r.2.1)
theorem okO_on {l p : Nat} {f : Nat → Option (Nat × Nat)} (hf : goodR l f) (hp : p < l) : okO l p (onO f p) := by
  unfold onO
  cases h : f (p + 1) with
  | none => exact ⟨by dsimp only; omega, by dsimp only; omega, fun z => by cases z⟩
  | some r =>
    obtain ⟨a, q⟩ := r
    have := hf _ _ _ h
    exact ⟨by dsimp only; omega, this.2, fun _ => by dsimp only; omega⟩
theorem okO_tw {T : Nat → Int32} {l p : Nat} {f f2 : Nat → Option (Nat × Nat)} {s : Int32} (hs : ¬ s = 0) (hf : goodR l f) (hf2 : goodR l f2) (hp : p < l) : okO l p (twO (gT T l) f s f2 p) := by
  unfold twO
  cases h : f (p + 1) with
  | none => exact ⟨by dsimp only; omega, by dsimp only; omega, fun z => by cases z⟩
  | some r =>
    obtain ⟨a, q⟩ := r
    have h1 := hf _ _ _ h
    dsimp only
    by_cases z : gT T l q = s
    · have h2 : q < l := g_in (by rw [z]; exact hs)
      rw [if_pos z]
      cases h3 : f2 (q + 1) with
      | none => exact ⟨by dsimp only; omega, by dsimp only; omega, fun z => by cases z⟩
      | some r =>
        obtain ⟨b, q2⟩ := r
        have h4 := hf2 _ _ _ h3
        exact ⟨by dsimp only; omega, h4.2, fun _ => by dsimp only; omega⟩
    · rw [if_neg z]
      exact ⟨by dsimp only; omega, h1.2, fun z => by cases z⟩
theorem rdO_l {T : Nat → Int32} {l p : Nat} (hp : p ≤ l) : okO l p (rdO (gT T l) p) := by
  have lt : ∀ k : Int32, ¬ k = 0 → gT T l p = k → p < l := fun k h0 h => g_in (by rw [h]; exact h0)
  unfold rdO
  split
  · rename_i h; exact okO_on goodF (lt _ (by decide) h)
  · split
    · rename_i h; exact okO_on goodN (lt _ (by decide) h)
    · split
      · rename_i h; exact okO_on goodN (lt _ (by decide) h)
      · split
        · rename_i h; exact okO_tw (by decide) goodF goodF (lt _ (by decide) h)
        · split
          · rename_i h; exact okO_tw (by decide) goodN goodN (lt _ (by decide) h)
          · split
            · rename_i h
              have := lt _ (by decide) h
              exact ⟨by dsimp only; omega, by dsimp only; omega, fun _ => by dsimp only; omega⟩
            · split
              · rename_i h; exact okO_tw (by decide) goodF goodF (lt _ (by decide) h)
              · split
                · rename_i h; exact okO_tw (by decide) goodF goodN (lt _ (by decide) h)
                · exact ⟨Nat.le_refl _, hp, fun z => by cases z⟩
/-- the fault, read from a place on -/
def fF (g : Nat → Int32) (l : Nat) : Nat → Nat → Option Nat
  | 0, _ => none
  | n + 1, p => if (rdO g p).1 = true then (if (rdO g p).2.1 = l then none else if g (rdO g p).2.1 = 59 then fF g l n ((rdO g p).2.1 + 1) else some (rdO g p).2.1) else some (rdO g p).2.1
def fV (x : Option Nat) : Int32 := match x with | none => -6 | some q => nI q
theorem gT_end (T : Nat → Int32) (l : Nat) : gT T l l = 0 := if_neg (by omega)
theorem c_faultL {S l : Nat} {T : Nat → Int32} : ∀ (n p i : Nat) (C : SM), RA C S l T → mI C (S + 108) 1 = nI p → l < n + p → 2 * i ≤ p → p ≤ l → ∃ F, rn 80 8 [some (.ref (S + 108)), some (.int 1), some (.int (nI i))] [] C = some (some (.int (fV (fF (gT T l) l n p))), sI C (S + 108) F) := by
  intro n
  have one0 : ((1 : Int32) = 0) = False := by decide
  have e80 : ∀ i, i ≤ 50 → ((80 : Int32) ≤ nI i) = False := fun i hi => by
    rw [show (80 : Int32) = nI 80 from rfl, i_le (by decide) (by omega)]
    exact eq_false (by omega)
  induction n with
  | zero => intro p i C h ha hn; omega
  | succ n ih =>
    intro p i C h ha hn hi hp
    have l80 := h.2.2.2.2.2.1
    obtain ⟨F, a1, a2, a3, a4⟩ := c_readOrder h (p := p) (by omega) ha
    obtain ⟨o1, o2, o3⟩ := rdO_l (T := T) hp
    have hk := h.1
    have hpd := h.2.1
    have hkp := h.2.2.1
    have hln := h.2.2.2.2.2.2.1
    have x108 : ¬ S + 109 = S + 108 := by omega
    generalize hr : rdO (gT T l) p = r at *
    have hfF : fF (gT T l) l (n + 1) p = if r.1 = true then (if r.2.1 = l then none else if gT T l r.2.1 = 59 then fF (gT T l) l n (r.2.1 + 1) else some r.2.1) else some r.2.1 := by
      rw [← hr]; rfl
    rw [hfF]
    cases hb : r.1 with
    | false =>
      rw [hb] at a1
      refine ⟨F, ?_⟩
      rw [t80_8]
      simp only [t80_9, t80_11, t80_14, t80_15, t80_18, t80_19, t80_22, t80_25, t80_26, t80_29, e80 i (by omega), one0, hk, a1, cbn_i, mK_sI, mI_sI, a2, fV, Bool.false_eq_true, not_true_eq_false, ↓reduceIte]
    | true =>
      rw [hb] at a1
      have o3 := o3 hb
      have hs := c_sign' h (f := F) (p := r.2.1) (by omega) a2 59
      by_cases z : gT T l r.2.1 = 59
      · have hlt : r.2.1 < l := g_in (by rw [z]; decide)
        rw [if_pos z] at hs
        obtain ⟨F', ih⟩ := ih (r.2.1 + 1) (i + 1) (sI C (S + 108) (va_up F 1 (nI (r.2.1 + 1)))) (h.sI _) (by rw [mI_sI, if_pos rfl, va_up_self]) (by omega) (by omega) (by omega)
        rw [sI_sI] at ih
        refine ⟨F', ?_⟩
        rw [t80_8]
        simp only [t80_9, t80_11, t80_14, t80_15, t80_18, t80_19, t80_22, t80_30, t80_31, t80_33, t80_36, t80_37, t80_40, e80 i (by omega), one0, hk, a1, hs, cbn_i, mK_sI, n1, not_false_eq_true, ↓reduceIte, show ¬ r.2.1 = l by omega, z]
        exact ih
      · rw [if_neg z] at hs
        refine ⟨F, ?_⟩
        rw [t80_8]
        simp only [t80_9, t80_11, t80_14, t80_15, t80_18, t80_19, t80_22, t80_30, t80_31, t80_33, t80_36, t80_37, t80_40, e80 i (by omega), one0, hk, a1, hs, cbn_i, mK_sI, n1, not_false_eq_true, ↓reduceIte, z]
        rw [t80_8]
        have heq : (nI r.2.1 = nI l) = (r.2.1 = l) := nI_inj (by omega) (by omega)
        by_cases y : r.2.1 = l
        · simp only [t80_9, t80_11, t80_14, t80_15, t80_43, t80_44, t80_47, t80_48, t80_51, t80_54, t80_57, t80_59, t80_62, t80_63, t80_66, e80 (i + 1) (by omega), hk, hpd, hkp, va_rf_s, mK_sI, mP_sI, mI_sI, x108, a2, hln, heq, y, fV, not_true_eq_false, ↓reduceIte]
        · simp only [t80_9, t80_11, t80_14, t80_15, t80_43, t80_44, t80_47, t80_48, t80_51, t80_54, t80_57, t80_59, t80_62, t80_63, t80_66, e80 (i + 1) (by omega), hk, hpd, hkp, va_rf_s, mK_sI, mP_sI, mI_sI, x108, a2, hln, heq, y, fV, not_false_eq_true, ↓reduceIte]
theorem c_fault {S l : Nat} {T : Nat → Int32} {C : SM} (h : RA C S l T) : ∃ F, cl 80 [.ref (S + 108)] C = some (some (.int (fV (fF (gT T l) l (l + 1) 0))), sI C (S + 108) F) := by
  have hb : cl 81 [.ref (S + 108)] C = some (none, sI C (S + 108) (va_up (mI C (S + 108)) 1 0)) := by
    show rn 81 0 [some (.ref (S + 108))] [] C = _
    simp only [t81_0, t81_1, t81_2, t81_5, h.1, ↓reduceIte]
  obtain ⟨F, hF⟩ := c_faultL (l + 1) 0 0 (sI C (S + 108) (va_up (mI C (S + 108)) 1 0)) (h.sI _) (by rw [mI_sI, if_pos rfl, va_up_self]; rfl) (by omega) (by omega) (by omega)
  rw [sI_sI] at hF
  refine ⟨F, ?_⟩
  show rn 80 0 [some (.ref (S + 108)), none, none] [] C = _
  simp only [t80_0, t80_1, t80_4, t80_5, t80_6, t80_7, h.1, hb, cbn_v, ↓reduceIte]
  exact hF
theorem m_faultL {m l : Nat} {T : Nat → Int32} : ∀ (n p : Nat) (N : SM), RB N m l T → mI N m 11 = nI p → l < n + p → p ≤ l → ∃ F, rn 164 5 [some (.ref m)] [] N = some (some (.int (fV (fF (gT T l) l n p))), sI N m F) ∧ F 3 = mI N m 3 ∧ F 7 = mI N m 7 := by
  intro n
  have one0 : ((1 : Int32) = 0) = False := by decide
  induction n with
  | zero => intro p N h ha hn; omega
  | succ n ih =>
    intro p N h ha hn hp
    have l80 := h.2.1
    have hln := h.2.2.1
    obtain ⟨F, a1, b3, b7, a2, a4⟩ := m_readsOrder h (p := p) (by omega) ha
    obtain ⟨o1, o2, o3⟩ := rdO_l (T := T) hp
    have hm := h.1.1
    generalize hr : rdO (gT T l) p = r at *
    have hfF : fF (gT T l) l (n + 1) p = if r.1 = true then (if r.2.1 = l then none else if gT T l r.2.1 = 59 then fF (gT T l) l n (r.2.1 + 1) else some r.2.1) else some r.2.1 := by
      rw [← hr]; rfl
    rw [hfF]
    have heq : (nI r.2.1 = nI l) = (r.2.1 = l) := nI_inj (by omega) (by omega)
    have f7 : F 7 = nI l := b7.trans hln
    cases hb : r.1 with
    | false =>
      rw [hb] at a1
      refine ⟨F, ?_, b3, b7⟩
      rw [t164_5]
      simp only [t164_6, t164_9, t164_12, t164_13, t164_16, hm, a1, cbn_i, mK_sI, mI_sI, a2, fV, Bool.false_eq_true, not_true_eq_false, ↓reduceIte]
    | true =>
      rw [hb] at a1
      by_cases y : r.2.1 = l
      · refine ⟨F, ?_, b3, b7⟩
        rw [t164_5]
        simp only [t164_6, t164_9, t164_17, t164_18, t164_21, t164_22, t164_25, t164_28, t164_30, hm, a1, cbn_i, mK_sI, mI_sI, a2, f7, heq, y, one0, fV, not_false_eq_true, not_true_eq_false, ↓reduceIte]
      · have hs := m_takes h (f := F) (p := r.2.1) (c := 59) b7 (by omega) a2 (by decide) (by decide)
        by_cases z : gT T l r.2.1 = 59
        · have hlt : r.2.1 < l := g_in (by rw [z]; decide)
          rw [if_pos z] at hs
          obtain ⟨F', ih, c3, c7⟩ := ih (r.2.1 + 1) (sI N m (va_up F 11 (nI (r.2.1 + 1)))) (h.sI (by rw [va_up_ne _ _ (by decide)]; exact b7)) (by rw [mI_sI, if_pos rfl, va_up_self]) (by omega) (by omega)
          rw [sI_sI] at ih
          rw [mI_sI, if_pos rfl, va_up_ne _ _ (by decide)] at c3 c7
          refine ⟨F', ?_, c3.trans b3, c7.trans b7⟩
          rw [t164_5]
          simp only [t164_6, t164_9, t164_17, t164_18, t164_21, t164_22, t164_25, t164_31, t164_32, t164_34, t164_37, hm, a1, hs, cbn_i, mK_sI, mI_sI, a2, f7, heq, y, z, one0, not_false_eq_true, ↓reduceIte]
          exact ih
        · rw [if_neg z] at hs
          refine ⟨F, ?_, b3, b7⟩
          rw [t164_5]
          simp only [t164_6, t164_9, t164_17, t164_18, t164_21, t164_22, t164_25, t164_31, t164_32, t164_34, t164_37, t164_40, t164_41, t164_44, hm, a1, hs, cbn_i, mK_sI, mI_sI, a2, f7, heq, y, z, one0, fV, not_false_eq_true, not_true_eq_false, ↓reduceIte]
theorem m_fault {m l : Nat} {T : Nat → Int32} {N : SM} (h : RB N m l T) : ∃ F, cl 164 [.ref m] N = some (some (.int (fV (fF (gT T l) l (l + 1) 0))), sI N m F) ∧ F 3 = mI N m 3 ∧ F 7 = mI N m 7 := by
  obtain ⟨F, hF, h3, h7⟩ := m_faultL (l + 1) 0 (sI N m (va_up (mI N m) 11 0)) (h.sI (va_up_ne _ _ (by decide))) (by rw [mI_sI, if_pos rfl, va_up_self]; rfl) (by omega) (by omega)
  rw [mI_sI, if_pos rfl, va_up_ne _ _ (by decide)] at h3 h7
  rw [sI_sI] at hF
  refine ⟨F, ?_, h3, h7⟩
  show rn 164 0 [some (.ref m)] [] N = _
  simp only [t164_0, t164_1, t164_2, h.1.1, ↓reduceIte]
  exact hF
theorem RA_of {M : SM} {S sb L l : Nat} (hS : Stat M S sb L) (l80 : l ≤ 80) (p2 : mI M (S + 109) 1 = nI l) (p4 : ∀ j, j < l → mI M (S + 110) j = mI M (S + 154) j ∧ 33 ≤ mI M (S + 110) j ∧ mI M (S + 110) j ≤ 126) : RA M S l (mI M (S + 110)) :=
  ⟨hS.2.2.2.2.2.1.1, hS.2.2.2.2.2.1.2, hS.2.2.2.2.1.1, hS.2.2.2.2.1.2.1, hS.2.2.2.2.1.2.2, l80, p2, fun _ _ => rfl, fun j hj => (p4 j hj).2⟩
theorem RB_of {M : SM} {S sb L l : Nat} (hS : Stat M S sb L) (l80 : l ≤ 80) (p3 : mI M (S + 148) 7 = nI l) (p4 : ∀ j, j < l → mI M (S + 110) j = mI M (S + 154) j ∧ 33 ≤ mI M (S + 110) j ∧ mI M (S + 110) j ≤ 126) : RB M (S + 148) l (mI M (S + 110)) :=
  ⟨hS.2.2.2.2.2.2.2.2.1, l80, p3, fun j hj => (p4 j hj).1.symm, fun j hj => (p4 j hj).2⟩
theorem RB.fr {N N' : SM} {m l : Nat} {T : Nat → Int32} (h : RB N m l T) (e : N'.2.2 = N.2.2) (h7 : mI N' m 7 = mI N m 7) (h6 : mI N' (m + 6) = mI N (m + 6)) : RB N' m l T := by
  obtain ⟨a, b, c, d, f⟩ := h
  exact ⟨a.st e, b, h7.trans c, by rw [h6]; exact d, f⟩
theorem p_fault {M : SM} {S sb L B : Nat} {xs : Nat → Int32} (h : Rel M S sb L xs B) : PairI 79 163 [] M S sb L xs B := by
  obtain ⟨⟨K0, P0, P1, P2, P3, P4, P5, P6⟩, SN, ⟨KH, PH, KR, RG⟩, ⟨KL, SL⟩, ⟨KP, PP, KC⟩, ⟨KD, PD⟩, TQ, TW, MM, ⟨LO1, LO2, LO3, LO4⟩⟩ := id h.1.1
  obtain ⟨l, l80, p2, p3, p4⟩ := h.1.2.2.2.1
  obtain ⟨F, hF⟩ := c_fault (RA_of h.1.1 l80 p2 p4)
  obtain ⟨M1, hM1⟩ : ∃ M1, M1 = sI M (S + 108) F := ⟨_, rfl⟩
  rw [← hM1] at hF
  have f1 : Fr M M1 (S + 108) (S + 109) := by rw [hM1]; exact Fr.sI _ (by omega) (by omega)
  have hB := (RB_of h.1.1 l80 p3 p4).fr f1.1 (by rw [(f1.2 _ (by omega)).1]) (f1.2 _ (by omega)).1
  obtain ⟨G, hG, g3, g7⟩ := m_fault hB
  refine ⟨fV (fF (gT (mI M (S + 110)) l) l (l + 1) 0), M1, sI M1 (S + 148) G, Low.of f1 (by omega), ?_, ?_, ?_⟩
  · show rn 79 0 [some (.ref S)] [] M = _
    simp only [t79_0, t79_1, t79_4, t79_7, K0, P3, KD, va_rf_s, hF, cbn_i, ↓reduceIte]
  · show rn 163 0 [some (.ref (S + 148))] [] M1 = _
    simp only [t163_0, t163_1, t163_4, KK f1.1, MM.1, hG, cbn_i, ↓reduceIte]
  · have hX1 := XF.of f1 (S := S) (by omega)
    have hX2 : XF M1 (sI M1 (S + 148) G) S := ⟨rfl, fun b hb => ⟨by rw [mI_sI, if_neg (by omega)], rfl⟩, by rw [mI_sI, if_pos rfl]; exact g3, by rw [mI_sI, if_pos rfl]; exact g7⟩
    refine h.q (hX1.trans hX2) (fun b h1 h2 => ?_) ?_
    · have := f1.2 b (by omega)
      exact ⟨by rw [mI_sI, if_neg (by omega)]; exact this.1, this.2⟩
    · rw [mI_sI, if_neg (by omega)]; exact (f1.2 (S + 149) (by omega)).1
