/-! as in whole -/
def Fr (M M' : SM) (lo hi : Nat) : Prop := M'.2.2 = M.2.2 ∧ ∀ b, (b < lo ∨ hi ≤ b) → mI M' b = mI M b ∧ mJ M' b = mJ M b
theorem Fr.trans {M M1 M2 : SM} {lo hi : Nat} (h : Fr M M1 lo hi) (g : Fr M1 M2 lo hi) : Fr M M2 lo hi := ⟨g.1.trans h.1, fun b hb => ⟨(g.2 b hb).1.trans (h.2 b hb).1, (g.2 b hb).2.trans (h.2 b hb).2⟩⟩
theorem Fr.mono {M M' : SM} {lo hi lo' hi' : Nat} (h : Fr M M' lo hi) (h1 : lo' ≤ lo) (h2 : hi ≤ hi') : Fr M M' lo' hi' := ⟨h.1, fun b hb => h.2 b (by omega)⟩
theorem Fr.sI {M : SM} {a lo hi : Nat} (f : Nat → Int32) (h1 : lo ≤ a) (h2 : a < hi) : Fr M (sI M a f) lo hi := ⟨rfl, fun b hb => ⟨by rw [mI_sI, if_neg (by omega)], rfl⟩⟩
theorem Fr.sJ {M : SM} {a lo hi : Nat} (f : Nat → Int64) (h1 : lo ≤ a) (h2 : a < hi) : Fr M (sJ M a f) lo hi := ⟨rfl, fun b hb => ⟨rfl, by rw [mJ_sJ, if_neg (by omega)]⟩⟩
theorem Fr.K {M M' : SM} {lo hi : Nat} (h : Fr M M' lo hi) : mK M' = mK M := congrArg (fun z => z.2.1) h.1
theorem Fr.P {M M' : SM} {lo hi : Nat} (h : Fr M M' lo hi) : mP M' = mP M := congrArg (fun z => z.1) h.1
theorem StAt.st {M M' : SM} {s : Nat} (h : StAt M s) (e : M'.2.2 = M.2.2) : StAt M' s := by
  have e1 : mK M' = mK M := congrArg (fun z => z.2.1) e
  have e2 : mP M' = mP M := congrArg (fun z => z.1) e
  obtain ⟨a, b, c, d, f⟩ := h
  exact ⟨by rw [e1]; exact a, by rw [e2]; exact b, by rw [e2]; exact c, d.st e, f.st e⟩
theorem ModAt.st {M M' : SM} {m : Nat} (h : ModAt M m) (e : M'.2.2 = M.2.2) : ModAt M' m := by
  have e1 : mK M' = mK M := congrArg (fun z => z.2.1) e
  have e2 : mP M' = mP M := congrArg (fun z => z.1) e
  unfold ModAt at *
  rw [e1, e2]
  exact h
theorem cpy_lo {α : Type} {f g : Nat → α} {n k : Nat} (h : k < n) : va_cpy f g 0 0 n k = f k := by
  unfold va_cpy
  rw [if_pos (by omega)]
  congr 1
  omega
theorem trm_cong {D D' : Nat → Int32} (hD : ∀ f, f < 16 → D' f = D f) : ∀ (n : Nat) (a : Int32), trm D n a → trm D' n a := by
  intro n
  induction n with
  | zero => intro a h; exact h
  | succ n ih =>
    intro a h
    rcases h with h | ⟨h1, h2⟩
    · exact Or.inl h
    · obtain ⟨j, hj, rfl⟩ := isF_of h1
      refine Or.inr ⟨h1, ?_⟩
      rw [nI_c (show j < 2147483648 by omega)] at h2 ⊢
      rw [hD j hj]
      exact ih _ h2
theorem TI_cong {D V D' V' : Nat → Int32} (h : TI D V) (hD : ∀ f, f < 16 → D' f = D f) (hV : ∀ f, f < 16 → V' f = V f) : TI D' V' := by
  obtain ⟨a, b, c, d, e⟩ := h
  refine ⟨(hD 0 (by decide)).trans a, (hV 0 (by decide)).trans b, ?_, ?_, fun f hf => trm_cong hD _ _ (e f hf)⟩
  · intro f hf hv
    rw [hV f hf] at hv
    rw [hD f hf]
    exact c f hf hv
  · intro f h0 hf hv
    rw [hV f hf] at hv
    obtain ⟨p, p1, p2, p3⟩ := d f h0 hf hv
    exact ⟨p, p1, (hD f hf).trans p2, by rw [hV p p1]; exact p3⟩
theorem TR_cong {w w' D V D' V' : Nat → Int32} (h : TR w D V) (hw : ∀ j, j < 370 → w' j = w j) (hD : ∀ f, f < 16 → D' f = D f) (hV : ∀ f, f < 16 → V' f = V f) : TR w' D' V' := by
  intro f hf
  rw [hw _ (by omega), hw _ (by omega), hw _ (by omega), hD f hf, hV f hf]
  exact h f hf
theorem rNd_cong {w w' : Nat → Int32} (hw : ∀ j, j < 370 → w' j = w j) {e : Nat} (he : e < 40) : rNd w' e = rNd w e := by
  unfold rNd
  rw [hw _ (by omega), hw _ (by omega)]
theorem LRel_cong {K F A K' F' A' : Nat → Int32} {nd ln nd' ln' : Nat → Int64} {lost lost' : Int64} {w w' : Nat → Int32} {n : Nat} (h : LRel K F A nd ln lost w n) (hK : ∀ e, e < 40 → K' e = K e) (hF : ∀ e, e < 40 → F' e = F e) (hA : ∀ e, e < 40 → A' e = A e) (hn : ∀ e, e < 40 → nd' e = nd e) (hl : ∀ e, e < 40 → ln' e = ln e) (ht : lost' = lost) (hw : ∀ j, j < 370 → w' j = w j) : LRel K' F' A' nd' ln' lost' w' n := by
  subst ht
  obtain ⟨n40, w0, ok, row, lst, lsn, nds, ndb, lns⟩ := h
  refine ⟨n40, (hw 0 (by decide)).trans w0, ?_, ?_, ?_, lsn, ?_, ?_, ?_⟩
  · intro e he
    unfold EntOK
    rw [hK e (by omega), hF e (by omega), hA e (by omega)]
    exact ok e he
  · intro e he
    rw [hK e (by omega), hF e (by omega), hA e (by omega), hw _ (by omega), hw _ (by omega), hw _ (by omega)]
    exact row e he
  · intro e he
    rw [hw _ (by omega)]
    exact lst e he
  · intro e he
    rw [rNd_cong hw (by omega), hn e (by omega)]
    exact nds e he
  · intro e he k hk
    rw [hn e (by omega)] at hk
    exact ndb e he k hk
  · intro e he
    rw [hn e (by omega), hl e (by omega), lns e he]
    exact orL_cong (fun k hk => (hl k (by omega)).symm)
theorem RRel_cong {rp rf rp' rf' : Int64} {ro re ro' re' : Nat → Int32} {rounds wid rounds' wid' : Int32} {D V D' V' w w' : Nat → Int32} {n R : Nat} (h : RRel rp rf ro re rounds wid D V w n R) (n40 : n ≤ 40) (h1 : rp' = rp) (h2 : rf' = rf) (h3 : ∀ e, e < 40 → ro' e = ro e) (h4 : ∀ e, e < 40 → re' e = re e) (h5 : rounds' = rounds) (h6 : wid' = wid) (hD : ∀ f, f < 16 → D' f = D f) (hV : ∀ f, f < 16 → V' f = V f) (hw : ∀ j, j < 370 → w' j = w j) : RRel rp' rf' ro' re' rounds' wid' D' V' w' n R := by
  subst h1 h2 h5 h6
  obtain ⟨w1, rds, rr, fro, rob, rps, rfs, wds, tr, ti⟩ := h
  refine ⟨(hw 1 (by decide)).trans w1, rds, ?_, ?_, ?_, ?_, ?_, ?_, TR_cong tr hw hD hV, TI_cong ti hD hV⟩
  · intro e he
    rw [h3 e (by omega), h4 e (by omega), hw _ (by omega), hw _ (by omega)]
    exact rr e he
  · intro e h1 h2
    rw [h3 e (by omega), h4 e (by omega)]
    exact fro e h1 h2
  · intro e he
    rw [h3 e (by omega)]
    exact rob e he
  · intro e
    rw [rps]
    by_cases q : e < n
    · rw [h3 e (by omega)]
    · simp [q]
  · intro e
    rw [rfs]
    by_cases q : e < n
    · rw [h4 e (by omega)]
    · simp [q]
  · rw [wds]
    congr 1
    exact wdN_cong (fun i _ e he => by rw [h3 e (by omega)])
/-- a State at s, beside a row of the reference -/
def SR (M : SM) (s : Nat) (w : Nat → Int32) (n R : Nat) : Prop := LR M (s + 1) w n ∧ RR M (s + 7) w n R
theorem SR_w {M : SM} {s n R : Nat} {w w' : Nat → Int32} (h : SR M s w n R) (hw : ∀ j, j < 370 → w' j = w j) : SR M s w' n R :=
  ⟨⟨h.1.1, LRel_cong h.1.2 (fun _ _ => rfl) (fun _ _ => rfl) (fun _ _ => rfl) (fun _ _ => rfl) (fun _ _ => rfl) rfl hw⟩, RRel_cong h.2 h.1.2.1 rfl rfl (fun _ _ => rfl) (fun _ _ => rfl) rfl rfl (fun _ _ => rfl) (fun _ _ => rfl) hw⟩
theorem LR_fr {M M' : SM} {h n lo hi : Nat} {w : Nat → Int32} (hL : LR M h w n) (hF : Fr M M' lo hi) (hd : hi ≤ h ∨ h + 6 ≤ lo) : LR M' h w n := by
  unfold LR
  rw [(hF.2 h (by omega)).1, (hF.2 h (by omega)).2, (hF.2 (h + 1) (by omega)).1, (hF.2 (h + 2) (by omega)).1, (hF.2 (h + 3) (by omega)).1, (hF.2 (h + 4) (by omega)).2, (hF.2 (h + 5) (by omega)).2]
  exact hL
theorem RR_fr {M M' : SM} {r n R lo hi : Nat} {w : Nat → Int32} (hL : RR M r w n R) (hF : Fr M M' lo hi) (hd : hi ≤ r ∨ r + 6 ≤ lo) : RR M' r w n R := by
  unfold RR
  rw [(hF.2 r (by omega)).1, (hF.2 r (by omega)).2, (hF.2 (r + 1) (by omega)).1, (hF.2 (r + 2) (by omega)).1, (hF.2 (r + 4) (by omega)).1, (hF.2 (r + 5) (by omega)).1]
  exact hL
theorem SR_fr {M M' : SM} {s n R lo hi : Nat} {w : Nat → Int32} (h : SR M s w n R) (hF : Fr M M' lo hi) (hd : hi ≤ s + 1 ∨ s + 13 ≤ lo) : SR M' s w n R := ⟨LR_fr h.1 hF (by omega), RR_fr h.2 hF (by omega)⟩
theorem c_tCopy {M : SM} {t u : Nat} (H : TreeAt M t) (G : TreeAt M u) (hd : t + 3 ≤ u ∨ u + 3 ≤ t) : cl 17 [.ref t, .ref u] M = some (none, sI (sI M (t + 1) (va_cpy (mI M (u + 1)) (mI M (t + 1)) 0 0 16)) (t + 2) (va_cpy (mI M (u + 2)) (mI M (t + 2)) 0 0 16)) := by
  show rn 17 0 [some (.ref t), some (.ref u)] [] M = _
  obtain ⟨h1, h2, h3, h4, h5⟩ := H
  obtain ⟨g1, g2, g3, g4, g5⟩ := G
  have e0 : (0 : Int32).toNatClampNeg = 0 := by decide
  have e16 : (16 : Int32).toNatClampNeg = 16 := by decide
  have n0 : ((0 : Int32) < 0) = False := by decide
  have n16 : ((16 : Int32) < 0) = False := by decide
  simp only [t17_0, t17_1, t17_4, t17_5, t17_6, t17_9, t17_10, t17_12, t17_15, t17_16, t17_19, t17_20, t17_21, t17_24, t17_25, t17_27, t17_30, h1, h2, h3, h4, h5, g1, g2, g3, g4, g5, va_rf_s, mK_sI, mP_sI, mI_sI, e0, e16, n0, n16, not_false_eq_true, and_self, true_and, Nat.zero_add, Nat.le_refl, ↓reduceIte, show ¬ u + 2 = t + 1 by omega, show ¬ t + 2 = t + 1 by omega]
theorem c_lCopy {M : SM} {h g : Nat} (H : LogAt M h) (G : LogAt M g) (hd : h + 6 ≤ g ∨ g + 6 ≤ h) : ∃ M', cl 15 [.ref h, .ref g] M = some (none, M') ∧ Fr M M' h (h + 6) ∧ ∀ w n, LR M g w n → LR M' h w n := by
  show ∃ M', rn 15 0 [some (.ref h), some (.ref g)] [] M = _ ∧ _
  obtain ⟨h1, h2, h3, h4, h5, h6, k1, k2, k3, k4, k5⟩ := H
  obtain ⟨g1, g2, g3, g4, g5, g6, l1, l2, l3, l4, l5⟩ := G
  have e0 : (0 : Int32).toNatClampNeg = 0 := by decide
  have e40 : (40 : Int32).toNatClampNeg = 40 := by decide
  have n0 : ((0 : Int32) < 0) = False := by decide
  have n40 : ((40 : Int32) < 0) = False := by decide
  have t1 : ((2 : Nat) = 1) = False := by decide
  have a1 : ¬ h + 1 = h := by omega
  have a2 : ¬ h + 2 = h := by omega
  have a3 : ¬ h + 3 = h := by omega
  have a4 : ¬ h + 4 = h := by omega
  have a5 : ¬ h + 5 = h := by omega
  have b1 : ¬ h = h + 1 := by omega
  have b2 : ¬ h = h + 2 := by omega
  have b3 : ¬ h = h + 3 := by omega
  have b4 : ¬ h = h + 4 := by omega
  have b5 : ¬ h = h + 5 := by omega
  have c12 : ¬ h + 1 = h + 2 := by omega
  have c13 : ¬ h + 1 = h + 3 := by omega
  have c23 : ¬ h + 2 = h + 3 := by omega
  have c21 : ¬ h + 2 = h + 1 := by omega
  have c31 : ¬ h + 3 = h + 1 := by omega
  have c32 : ¬ h + 3 = h + 2 := by omega
  have c45 : ¬ h + 4 = h + 5 := by omega
  have c54 : ¬ h + 5 = h + 4 := by omega
  have d0 : ¬ g = h := by omega
  have d10 : ¬ g + 1 = h := by omega
  have d20 : ¬ g + 2 = h := by omega
  have d21 : ¬ g + 2 = h + 1 := by omega
  have d30 : ¬ g + 3 = h := by omega
  have d31 : ¬ g + 3 = h + 1 := by omega
  have d32 : ¬ g + 3 = h + 2 := by omega
  have d40 : ¬ g + 4 = h := by omega
  have d50 : ¬ g + 5 = h := by omega
  have d54 : ¬ g + 5 = h + 4 := by omega
  refine ⟨sJ (sJ (sI (sI (sI (sJ (sI M h (va_up (mI M h) 0 (mI M g 0))) h (va_up (mJ M h) 1 (mJ M g 1))) (h + 1) (va_cpy (mI M (g + 1)) (mI M (h + 1)) 0 0 40)) (h + 2) (va_cpy (mI M (g + 2)) (mI M (h + 2)) 0 0 40)) (h + 3) (va_cpy (mI M (g + 3)) (mI M (h + 3)) 0 0 40)) (h + 4) (va_cpy (mJ M (g + 4)) (mJ M (h + 4)) 0 0 40)) (h + 5) (va_cpy (mJ M (g + 5)) (mJ M (h + 5)) 0 0 40), ?_, ?_, ?_⟩
  · simp only [t15_0, t15_1, t15_2, t15_5, t15_8, t15_9, t15_10, t15_13, t15_16, t15_17, t15_20, t15_21, t15_22, t15_25, t15_26, t15_28, t15_31, t15_32, t15_35, t15_36, t15_37, t15_40, t15_41, t15_43, t15_46, t15_47, t15_50, t15_51, t15_52, t15_55, t15_56, t15_58, t15_61, t15_62, t15_65, t15_66, t15_67, t15_70, t15_71, t15_73, t15_76, t15_77, t15_80, t15_81, t15_82, t15_85, t15_86, t15_88, t15_91, h1, h2, h3, h4, h5, h6, k1, k2, k3, k4, k5, g1, g2, g3, g4, g5, g6, l1, l2, l3, l4, l5, va_rf_s, mK_sI, mP_sI, mK_sJ, mP_sJ, mI_sI, mI_sJ, mJ_sI, mJ_sJ, e0, e40, n0, n40, t1, a1, a2, a3, a4, a5, c21, c31, c32, c54, d0, d10, d20, d21, d30, d31, d32, d40, d50, d54, not_false_eq_true, and_self, true_and, false_and, Nat.zero_add, Nat.le_refl, ↓reduceIte]
  · refine (((((((Fr.sI _ ?_ ?_).trans (Fr.sJ _ ?_ ?_)).trans (Fr.sI _ ?_ ?_)).trans (Fr.sI _ ?_ ?_)).trans (Fr.sI _ ?_ ?_)).trans (Fr.sJ _ ?_ ?_)).trans (Fr.sJ _ ?_ ?_)) <;> omega
  · intro w n hL
    unfold LR
    simp only [mI_sI, mI_sJ, mJ_sI, mJ_sJ, ↓reduceIte, a1, a2, a3, a4, a5, b1, b2, b3, b4, b5, c12, c13, c23, c21, c31, c32, c45, c54, d0, d10, d20, d21, d30, d31, d32, d40, d50, d54, va_up_self]
    exact ⟨hL.1, LRel_cong hL.2 (fun _ q => cpy_lo q) (fun _ q => cpy_lo q) (fun _ q => cpy_lo q) (fun _ q => cpy_lo q) (fun _ q => cpy_lo q) rfl (fun _ _ => rfl)⟩
