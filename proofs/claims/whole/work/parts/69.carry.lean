/-! the orders carried out, one after the other -/
def CF (C C' : SM) (S : Nat) : Prop := C'.2.2 = C.2.2 ∧ ∀ b, (b < S + 2 ∨ (S + 14 ≤ b ∧ b < S + 108) ∨ S + 109 ≤ b) → Same C C' b
theorem CF.trans {M M1 M2 : SM} {S : Nat} (h : CF M M1 S) (g : CF M1 M2 S) : CF M M2 S := ⟨g.1.trans h.1, fun b hb => ⟨(g.2 b hb).1.trans (h.2 b hb).1, (g.2 b hb).2.trans (h.2 b hb).2⟩⟩
theorem CF.r {C : SM} {S : Nat} (f : Nat → Int32) : CF C (sI C (S + 108) f) S := ⟨rfl, fun b hb => ⟨by rw [mI_sI, if_neg (by omega)], rfl⟩⟩
theorem CF.of {C C' : SM} {S : Nat} (h : Fr C C' (S + 2) (S + 14)) : CF C C' S := ⟨h.1, fun b hb => h.2 b (by omega)⟩
def NF (N N' : SM) (m : Nat) : Prop := N'.2.2 = N.2.2 ∧ (∀ b, b ≠ m → b ≠ m + 1 → b ≠ m + 7 → Same N N' b) ∧ mI N' m 3 = mI N m 3 ∧ mI N' m 7 = mI N m 7
theorem NF.trans {M M1 M2 : SM} {m : Nat} (h : NF M M1 m) (g : NF M1 M2 m) : NF M M2 m := ⟨g.1.trans h.1, fun b h0 h1 h7 => ⟨(g.2.1 b h0 h1 h7).1.trans (h.2.1 b h0 h1 h7).1, (g.2.1 b h0 h1 h7).2.trans (h.2.1 b h0 h1 h7).2⟩, g.2.2.1.trans h.2.2.1, g.2.2.2.trans h.2.2.2⟩
theorem NF.m {N : SM} {m : Nat} {f : Nat → Int32} (h3 : f 3 = mI N m 3) (h7 : f 7 = mI N m 7) : NF N (sI N m f) m := ⟨rfl, fun b h0 _ _ => ⟨by rw [mI_sI, if_neg h0], rfl⟩, by rw [mI_sI, if_pos rfl]; exact h3, by rw [mI_sI, if_pos rfl]; exact h7⟩
theorem NF.op {N N' : SM} {m : Nat} (h : OpF N N' m) : NF N N' m := ⟨h.1, fun b _ h1 h7 => h.2 b h1 h7, by rw [(h.2 m (by omega) (by omega)).1], by rw [(h.2 m (by omega) (by omega)).1]⟩
theorem RB.nf {N N' : SM} {m l : Nat} {T : Nat → Int32} (h : RB N m l T) (hN : NF N N' m) : RB N' m l T := h.fr hN.1 hN.2.2.2 (hN.2.1 (m + 6) (by omega) (by omega) (by omega)).1
theorem RA.cf {C C' : SM} {S l : Nat} {T : Nat → Int32} (h : RA C S l T) (hC : CF C C' S) : RA C' S l T := h.fr hC.1 (hC.2 (S + 109) (by omega)).1 (hC.2 (S + 110) (by omega)).1
/-- what the reference's loop does -/
def RLoop (C C' : SM) (S l p i k : Nat) (T : Nat → Int32) (B B' : Nat) : Prop := ∀ N, RB N (S + 148) l T → mI N (S + 148) 11 = nI p → (∃ n R, R ≤ B ∧ SR C (S + 1) (mI N (S + 148 + 1)) n R) → ∃ N' g, rn 170 25 [some (.ref (S + 148)), some (.int (nI i)), some (.int 1)] [] N = rn 170 79 [some (.ref (S + 148)), some (.int (nI k)), g] [] N' ∧ NF N N' (S + 148) ∧ ∃ n R, R ≤ B' ∧ SR C' (S + 1) (mI N' (S + 148 + 1)) n R
theorem carryEnd {C : SM} {S sb L l i : Nat} {T : Nat → Int32} (hS : Stat C S sb L) (hA : RA C S l T) (ha : mI C (S + 108) 1 = nI l) (hi : i ≤ 60) : ∃ C', rn 92 35 [some (.ref S), some (.int (nI i))] [] C = rn 92 74 [some (.ref S), some (.int (nI i))] [] C' ∧ CF C C' S ∧ ∀ b, S + 2 ≤ b → b < S + 14 → Same C C' b := by
  obtain ⟨⟨K0, P0, P1, P2, P3, P4, P5, P6⟩, SN, ⟨KH, PH, KR, RG⟩, ⟨KL, SL⟩, ⟨KP, PP, KC⟩, ⟨KD, PD⟩, TQ, TW, MM, ⟨LO1, LO2, LO3, LO4⟩⟩ := hS
  have l80 := hA.2.2.2.2.2.1
  obtain ⟨F, a1, a2, a3, a4⟩ := c_readOrder hA (p := l) (by omega) ha
  have e80 : ((80 : Int32) ≤ nI i) = False := by
    rw [show (80 : Int32) = nI 80 from rfl, i_le (by decide) (by omega)]
    exact eq_false (by omega)
  have hr : (rdO (gT T l) l).1 = false := by
    cases z : (rdO (gT T l) l).1 with
    | false => rfl
    | true =>
      have o := rdO_l (T := T) (Nat.le_refl l)
      have := o.2.2 z
      have := o.2.1
      omega
  rw [hr] at a1
  refine ⟨sI C (S + 108) F, ?_, CF.r F, fun b h1 h2 => ⟨by rw [mI_sI, if_neg (by omega)], rfl⟩⟩
  rw [t92_35]
  simp only [t92_36, t92_38, t92_41, t92_42, t92_45, t92_48, e80, K0, P3, KD, va_rf_s, a1, cbn_i, Bool.false_eq_true, ↓reduceIte]
theorem carryL {S sb L l : Nat} {T : Nat → Int32} : ∀ (fu p i B : Nat) (C : SM), Stat C S sb L → RA C S l T → mI C (S + 108) 1 = nI p → (∃ w n R, R ≤ B ∧ SR C (S + 1) w n R) → B + fu + 2 < 2147483648 → l < fu + p → fF (gT T l) l fu p = none → p ≤ l → 2 * i ≤ p →
    ∃ (k : Nat) (C' : SM), rn 92 35 [some (.ref S), some (.int (nI i))] [] C = rn 92 74 [some (.ref S), some (.int (nI k))] [] C' ∧ CF C C' S ∧ k ≤ 100 ∧ RLoop C C' S l p i k T B (B + fu) := by
  intro fu
  have one0 : ((1 : Int32) = 0) = False := by decide
  induction fu with
  | zero => intro p i B C _ _ _ _ _ h; omega
  | succ fu ih =>
    intro p i B C hS hA ha hN0 hb hl hf hp hi
    obtain ⟨w0, n0, R0, hR0, hN⟩ := hN0
    obtain ⟨⟨K0, P0, P1, P2, P3, P4, P5, P6⟩, SN, ⟨KH, PH, KR, RG⟩, ⟨KL, SL⟩, ⟨KP, PP, KC⟩, ⟨KD, PD⟩, TQ, TW, MM, ⟨LO1, LO2, LO3, LO4⟩⟩ := id hS
    have l80 := hA.2.2.2.2.2.1
    obtain ⟨o1, o2, o3⟩ := rdO_l (T := T) hp
    obtain ⟨F, a1, a2, a3, a4⟩ := c_readOrder hA (p := p) (by omega) ha
    have hcode := @rdO_code (gT T l) p
    have hmo := fun N (h : RB N (S + 148) l T) (h11 : mI N (S + 148) 11 = nI p) => m_readsOrder h (p := p) (by omega) h11
    have hfd : fF (gT T l) l (fu + 1) p = if (rdO (gT T l) p).1 = true then (if (rdO (gT T l) p).2.1 = l then none else if gT T l (rdO (gT T l) p).2.1 = 59 then fF (gT T l) l fu ((rdO (gT T l) p).2.1 + 1) else some (rdO (gT T l) p).2.1) else some (rdO (gT T l) p).2.1 := rfl
    rw [hfd] at hf
    clear hfd
    generalize hr : rdO (gT T l) p = r at *
    have hb1 : r.1 = true := by
      cases z : r.1 with
      | true => rfl
      | false => rw [z, if_neg (by decide)] at hf; cases hf
    rw [if_pos hb1] at hf
    have o3 := o3 hb1
    have hcode := hcode hb1
    obtain ⟨a5, a6⟩ := a4 hb1
    rw [hb1, if_pos rfl] at a1
    obtain ⟨C1, hC1⟩ : ∃ C1, C1 = sI C (S + 108) F := ⟨_, rfl⟩
    rw [← hC1] at a1
    have c1 : CF C C1 S := by rw [hC1]; exact CF.r F
    have hS1 := hS.st c1.1
    have up1 : ∀ w n R, SR C (S + 1) w n R → SR C1 (S + 1) w n R := fun w n R hN => SR_eq hN (fun b b1 b2 => by rw [hC1]; exact ⟨by rw [mI_sI, if_neg (by omega)], rfl⟩)
    have r1 : mI C1 (S + 108) = F := by rw [hC1, mI_sI, if_pos rfl]
    obtain ⟨e, C2, d1, d2, -⟩ := st_order (c := gT T l p) hS1 (up1 _ _ _ hN) (by omega) (by rw [r1]; exact a3) hcode
    have hall : ∀ w n R, R ≤ B → SR C (S + 1) w n R → OrdR C1 C2 S w (gT T l p) e (R + 1) := by
      intro w n R hR hw
      obtain ⟨e', C2', d1', -, d3'⟩ := st_order (c := gT T l p) hS1 (up1 _ _ _ hw) (by omega) (by rw [r1]; exact a3) hcode
      have := d1.symm.trans d1'
      cases this
      exact d3'
    have c2 := c1.trans (CF.of d2)
    have hS2 := hS.st c2.1
    have hA2 := hA.cf c2
    have r2 : mI C2 (S + 108) = F := ((d2.2 (S + 108) (by omega)).1).trans r1
    have e80 : ((80 : Int32) ≤ nI i) = False := by
      rw [show (80 : Int32) = nI 80 from rfl, i_le (by decide) (by omega)]
      exact eq_false (by omega)
    -- the reference reads the order and the sign
    have refRead : ∀ N, RB N (S + 148) l T → mI N (S + 148) 11 = nI p → ∃ G, NF N (sI N (S + 148) G) (S + 148) ∧ G 12 = gT T l p ∧ (¬ gT T l p = 114 → G 13 = F 3) ∧ (usB (gT T l p) → G 14 = F 4) ∧ (r.2.1 = l → G 11 = nI l) ∧ (¬ r.2.1 = l → G 11 = nI (r.2.1 + 1)) ∧
        ∀ li, rn 170 25 [some (.ref (S + 148)), some (.int li), some (.int 1)] [] N = rn 170 52 [some (.ref (S + 148)), some (.int li), some (.int 1)] [] (sI N (S + 148) G) := by
      intro N hBN h11
      obtain ⟨G, g1, g3, g7, g11, g4⟩ := hmo N hBN h11
      rw [hb1, if_pos rfl] at g1
      obtain ⟨g12, g13, g14⟩ := g4 hb1
      have hts := m_takes hBN (f := G) (p := r.2.1) (c := 59) g7 (by omega) g11 (by decide) (by decide)
      have hle : (nI l ≤ nI p) = False := by rw [i_le (by omega) (by omega)]; exact eq_false (by omega)
      by_cases y : r.2.1 = l
      · have z : ¬ gT T l r.2.1 = 59 := by rw [y, gT_end]; decide
        rw [if_neg z] at hts
        refine ⟨G, NF.m g3 g7, g12, fun q => by rw [g13 q, a5 q], fun q => by rw [g14 q, a6 q], fun _ => by rw [g11, y], fun q => absurd y q, fun li => ?_⟩
        rw [t170_25]
        simp only [t170_26, t170_29, t170_30, t170_33, t170_34, t170_37, t170_40, t170_41, t170_44, t170_45, t170_46, t170_48, t170_51, hBN.1.1, one0, h11, hBN.2.2.1, hle, g1, hts, cbn_i, mK_sI, ↓reduceIte]
      · have z : gT T l r.2.1 = 59 := by
          rw [if_neg y] at hf
          by_cases q : gT T l r.2.1 = 59
          · exact q
          · rw [if_neg q] at hf; cases hf
        rw [if_pos z] at hts
        refine ⟨va_up G 11 (nI (r.2.1 + 1)), NF.m ((va_up_ne _ _ (by decide)).trans g3) ((va_up_ne _ _ (by decide)).trans g7), (va_up_ne _ _ (by decide)).trans g12, fun q => by rw [va_up_ne _ _ (by decide), g13 q, a5 q], fun q => by rw [va_up_ne _ _ (by decide), g14 q, a6 q], fun q => absurd q y, fun _ => va_up_self _ _ _, fun li => ?_⟩
        rw [t170_25]
        simp only [t170_26, t170_29, t170_30, t170_33, t170_34, t170_37, t170_40, t170_41, t170_44, t170_45, t170_46, t170_48, t170_51, hBN.1.1, one0, h11, hBN.2.2.1, hle, g1, hts, cbn_i, mK_sI, ↓reduceIte]
    by_cases f1 : e < 0
    · -- refused on both sides
      refine ⟨i, C2, ?_, c2, by omega, ?_⟩
      · rw [t92_35]
        simp only [t92_36, t92_38, t92_41, t92_42, t92_45, t92_48, t92_51, t92_52, t92_55, e80, K0, P3, KD, va_rf_s, a1, cbn_i, one0, KK c1.1, PK c1.1, d1, f1, ↓reduceIte]
      · intro N hBN h11 hu
        obtain ⟨n, R, hR, hu⟩ := hu
        obtain ⟨G, n1', g12, g13, g14, -, -, grun⟩ := refRead N hBN h11
        obtain ⟨-, f2, f3⟩ := (hall _ _ _ hR hu).resolve_right (fun z => z.1 f1)
        have hw := f3 (sI N (S + 148) G) (S + 148) (hBN.1.sI _ _) (by rw [mI_sI, if_neg (by omega)]) (by rw [mI_sI, if_pos rfl]; exact g12) (fun q => by rw [mI_sI, if_pos rfl, r1]; exact g13 q) (fun q => by rw [mI_sI, if_pos rfl, r1]; exact g14 q)
        refine ⟨sI N (S + 148) G, some (.int 0), ?_, n1', n, R, by omega, ?_⟩
        · rw [grun]
          have e0 : (e = 0) = False := eq_false (fun z => by rw [z] at f1; exact absurd f1 (by decide))
          simp only [t170_52, t170_53, t170_56, t170_59, t170_60, t170_63, t170_64, t170_65, t170_66, mK_sI, hBN.1.1, hw, cbn_i, e0, not_false_eq_true, ↓reduceIte]
          rw [t170_25]
          simp only [t170_26, ↓reduceIte]
        · rw [mI_sI, if_neg (by omega), f2]
          exact up1 _ _ _ hu
    · have hE : ∀ N G, RB N (S + 148) l T → (∃ n R, R ≤ B ∧ SR C (S + 1) (mI N (S + 148 + 1)) n R) → G 12 = gT T l p → (¬ gT T l p = 114 → G 13 = F 3) → (usB (gT T l p) → G 14 = F 4) → cl 171 [.ref (S + 148)] (sI N (S + 148) G) = some (some (.int 0), sI N (S + 148) G) ∧ ∃ N', cl 172 [.ref (S + 148)] (sI N (S + 148) G) = some (none, N') ∧ OpF (sI N (S + 148) G) N' (S + 148) ∧ ∃ n R', R' ≤ B + 1 ∧ SR C2 (S + 1) (mI N' (S + 148 + 1)) n R' := by
        intro N G hBN hu g12 g13 g14
        obtain ⟨n, R, hR, hu⟩ := hu
        obtain ⟨-, f2⟩ := (hall _ _ _ hR hu).resolve_left (fun z => f1 z.1)
        obtain ⟨x1, N', x2, x3, n', R', x4, x5⟩ := f2 (sI N (S + 148) G) (S + 148) (hBN.1.sI _ _) (by rw [mI_sI, if_neg (by omega)]) (by rw [mI_sI, if_pos rfl]; exact g12) (fun q => by rw [mI_sI, if_pos rfl, r1]; exact g13 q) (fun q => by rw [mI_sI, if_pos rfl, r1]; exact g14 q)
        exact ⟨x1, N', x2, x3, n', R', by omega, x5⟩
      have hs0 := c_sign' hA2 (f := F) (p := r.2.1) (by omega) a2 59
      rw [← r2, sI_self] at hs0
      have hn1 : nI i + 1 = nI (i + 1) := n1 i
      by_cases y : r.2.1 = l
      · have z : ¬ gT T l r.2.1 = 59 := by rw [y, gT_end]; decide
        rw [if_neg z] at hs0
        have ha2 : mI C2 (S + 108) 1 = nI l := by rw [r2, a2, y]
        obtain ⟨C3, x1, x2, x3⟩ := carryEnd (i := i + 1) hS2 hA2 ha2 (by omega)
        refine ⟨i + 1, C3, ?_, c2.trans x2, by omega, ?_⟩
        · rw [t92_35]
          simp only [t92_36, t92_38, t92_41, t92_42, t92_45, t92_48, t92_51, t92_52, t92_55, t92_58, t92_61, t92_62, t92_65, t92_67, t92_70, t92_71, e80, K0, P3, KD, va_rf_s, a1, cbn_i, one0, KK c1.1, PK c1.1, KK c2.1, PK c2.1, d1, f1, hn1, hs0, ↓reduceIte]
          exact x1
        · intro N hBN h11 hu
          obtain ⟨G, n1', g12, g13, g14, gl, -, grun⟩ := refRead N hBN h11
          obtain ⟨w1, N', w2, w3, n', R', w4, w5⟩ := hE N G hBN hu g12 g13 g14
          have hNF := n1'.trans (NF.op w3)
          refine ⟨N', some (.int 1), ?_, hNF, n', R', by omega, SR_eq w5 (fun b b1 b2 => x3 b (by omega) (by omega))⟩
          rw [grun]
          have k1 : mK N' (S + 148) = (19, 0) := by rw [KK hNF.1]; exact hBN.1.1
          have v11 : mI N' (S + 148) 11 = nI l := by rw [(w3.2 (S + 148) (by omega) (by omega)).1, mI_sI, if_pos rfl]; exact gl y
          have v7 : mI N' (S + 148) 7 = nI l := hNF.2.2.2.trans hBN.2.2.1
          have hle : (nI l ≤ nI l) = True := by rw [i_le (by omega) (by omega)]; exact eq_true (Nat.le_refl _)
          simp only [t170_52, t170_53, t170_56, t170_59, t170_60, t170_63, t170_64, t170_65, t170_66, t170_69, t170_70, t170_73, t170_76, mK_sI, hBN.1.1, w1, w2, cbn_i, cbn_v, one0, hn1, not_true_eq_false, ↓reduceIte]
          rw [t170_25]
          simp only [t170_26, t170_29, t170_30, t170_33, t170_34, t170_37, one0, k1, v11, v7, hle, ↓reduceIte]
      · have z : gT T l r.2.1 = 59 := by
          rw [if_neg y] at hf
          by_cases q : gT T l r.2.1 = 59
          · exact q
          · rw [if_neg q] at hf; cases hf
        rw [if_neg y, if_pos z] at hf
        rw [if_pos z, r2] at hs0
        obtain ⟨C3, hC3⟩ : ∃ C3, C3 = sI C2 (S + 108) (va_up F 1 (nI (r.2.1 + 1))) := ⟨_, rfl⟩
        rw [← hC3] at hs0
        have c23 : CF C2 C3 S := by rw [hC3]; exact CF.r _
        have c3 : CF C C3 S := c2.trans c23
        have up3 : ∀ w n R, SR C2 (S + 1) w n R → SR C3 (S + 1) w n R := fun w n R hw => SR_eq hw (fun b b1 b2 => by rw [hC3]; exact ⟨by rw [mI_sI, if_neg (by omega)], rfl⟩)
        -- a memory of the reference, made up: some row goes with C3
        have hmock : ∃ w n R, R ≤ B + 1 ∧ SR C3 (S + 1) w n R := by
          obtain ⟨g, hg⟩ : ∃ g : Nat → Int32, g = va_up (va_up (va_up (fun _ => 0) 12 (gT T l p)) 13 (F 3)) 14 (F 4) := ⟨_, rfl⟩
          have hu0 := hall w0 n0 R0 hR0 hN
          obtain ⟨-, f2⟩ := hu0.resolve_left (fun z => f1 z.1)
          obtain ⟨-, N', -, -, n', R', x4, x5⟩ := f2 (sI (sI C (S + 148 + 1) w0) (S + 148) g) (S + 148) ((MM.sI _ _).sI _ _) (by rw [mI_sI, if_neg (by omega), mI_sI, if_pos rfl]) (by rw [mI_sI, if_pos rfl, hg, va_up_ne _ _ (by decide), va_up_ne _ _ (by decide), va_up_self]) (fun _ => by rw [mI_sI, if_pos rfl, r1, hg, va_up_ne _ _ (by decide), va_up_self]) (fun _ => by rw [mI_sI, if_pos rfl, r1, hg, va_up_self])
          exact ⟨_, n', R', by omega, up3 _ _ _ x5⟩
        have hlt : r.2.1 < l := by omega
        obtain ⟨k, C', v1, v2, v3, v4⟩ := ih (r.2.1 + 1) (i + 1) (B + 1) C3 (hS.st c3.1) (hA.cf c3) (by rw [hC3, mI_sI, if_pos rfl, va_up_self]) hmock (by omega) (by omega) hf (by omega) (by omega)
        refine ⟨k, C', ?_, c3.trans v2, v3, ?_⟩
        · rw [t92_35]
          simp only [t92_36, t92_38, t92_41, t92_42, t92_45, t92_48, t92_51, t92_52, t92_55, t92_58, t92_61, t92_62, t92_65, t92_67, t92_70, t92_71, e80, K0, P3, KD, va_rf_s, a1, cbn_i, one0, KK c1.1, PK c1.1, KK c2.1, PK c2.1, d1, f1, hn1, hs0, ↓reduceIte]
          exact v1
        · intro N hBN h11 hu
          obtain ⟨G, n1', g12, g13, g14, -, gl, grun⟩ := refRead N hBN h11
          obtain ⟨w1, N', w2, w3, n', R', w4, w5⟩ := hE N G hBN hu g12 g13 g14
          have hNF := n1'.trans (NF.op w3)
          have v11 : mI N' (S + 148) 11 = nI (r.2.1 + 1) := by rw [(w3.2 (S + 148) (by omega) (by omega)).1, mI_sI, if_pos rfl]; exact gl y
          obtain ⟨N2, g, u1, u2, n2, R2, u3, u4⟩ := v4 N' (hBN.nf hNF) v11 ⟨n', R', w4, up3 _ _ _ w5⟩
          refine ⟨N2, g, ?_, hNF.trans u2, n2, R2, by omega, u4⟩
          rw [grun]
          simp only [t170_52, t170_53, t170_56, t170_59, t170_60, t170_63, t170_64, t170_65, t170_66, t170_69, t170_70, t170_73, t170_76, mK_sI, hBN.1.1, w1, w2, cbn_i, cbn_v, one0, hn1, not_true_eq_false, ↓reduceIte]
          exact u1
