/-! the reference: its tree -/
/-- a chain of directories comes to its end within so many steps -/
def trm (D : Nat → Int32) : Nat → Int32 → Prop
  | 0, _ => False
  | n + 1, a => a = -6 ∨ (isF a = true ∧ trm D n (D a.toNatClampNeg))
/-- the reference's row says the tree's rows -/
def TR (w D V : Nat → Int32) : Prop := ∀ f, f < 16 → w (322 + 3 * f) = (if V f = -6 then 0 else 1) ∧ w (322 + 3 * f + 1) = D f ∧ w (322 + 3 * f + 2) = V f
def TI (D V : Nat → Int32) : Prop := D 0 = -6 ∧ V 0 = 0 ∧ (∀ f, f < 16 → V f = -6 → D f = -6) ∧ (∀ f, 0 < f → f < 16 → ¬ V f = -6 → ∃ p, p < 16 ∧ D f = nI p ∧ ¬ V p = -6) ∧ (∀ f, f < 16 → trm D 17 (nI f))
theorem nI_m6 {k : Nat} (hk : k < 16) : (nI k = -6) = False := eq_false ((by decide +kernel : ∀ k, k < 16 → ¬ nI k = -6) k hk)
theorem nI_inj {a b : Nat} (ha : a < 2147483648) (hb : b < 2147483648) : (nI a = nI b) = (a = b) := propext (nI_eq ha hb)
theorem c_under {M : SM} {m : Nat} {D V : Nat → Int32} (h : ModAt M m) (hT : TR (mI M (m + 1)) D V) {top : Nat} (ht : top < 16) : ∀ (n : Nat) (f a : Int32), trm D (n + 1) a → rn 142 2 [some (.ref m), some (.int f), some (.int (nI top)), some (.int a)] [] M = some (some (.int (if lies D n a (nI top) = true then 1 else 0)), M) := by
  intro n
  have h1 := h.1
  have e6 : ((-6 : Int32) = nI top) = False := eq_false (fun z => (of_eq_false (nI_m6 ht)) z.symm)
  have f6 : isF (-6) = false := by decide
  induction n with
  | zero =>
    intro f a hn
    rcases hn with rfl | ⟨-, hn⟩
    · rw [t142_2]
      simp only [t142_0, t142_1, t142_3, t142_5, t142_8, t142_9, t142_10, t142_13, t142_14, t142_15, t142_16, t142_19, t142_20, t142_23, t142_24, t142_25, t142_28, t142_29, t142_32, t142_33, ↓reduceIte, e6, lies, not_true_eq_false, not_false_eq_true, Bool.false_eq_true, true_or]
    · exact hn.elim
  | succ n ih =>
    intro f a hn
    rcases hn with rfl | ⟨hf, hn⟩
    · rw [t142_2]
      simp only [t142_0, t142_1, t142_3, t142_5, t142_8, t142_9, t142_10, t142_13, t142_14, t142_15, t142_16, t142_19, t142_20, t142_23, t142_24, t142_25, t142_28, t142_29, t142_32, t142_33, ↓reduceIte, e6, lies, f6, not_true_eq_false, not_false_eq_true, Bool.false_eq_true, true_or]
    · obtain ⟨j, hj, rfl⟩ := isF_of hf
      rw [nI_c (show j < 2147483648 by omega)] at hn
      rw [t142_2]
      by_cases hjt : j = top
      · subst hjt
        simp only [t142_0, t142_1, t142_3, t142_5, t142_8, t142_9, t142_10, t142_13, t142_14, t142_15, t142_16, t142_19, t142_20, t142_23, t142_24, t142_25, t142_28, t142_29, t142_32, t142_33, nI_m6 hj, ↓reduceIte, lies, hf, not_true_eq_false, not_false_eq_true, or_true]
      · have hne : (nI j = nI top) = False := by rw [nI_inj (by omega) (by omega)]; exact eq_false hjt
        have e := c_filePart h hj (show 1 < 3 by decide)
        rw [show nI 1 = 1 from rfl, (hT j hj).2.1] at e
        simp only [t142_0, t142_1, t142_3, t142_5, t142_8, t142_9, t142_10, t142_13, t142_14, t142_15, t142_16, t142_19, t142_20, t142_23, t142_24, t142_25, t142_28, t142_29, t142_32, t142_33, nI_m6 hj, hne, h1, e, cbn_i, ↓reduceIte, lies, hf, nI_c (show j < 2147483648 by omega)]
        exact ih f (D j) hn
theorem c_isUnder {M : SM} {m f top : Nat} {D V : Nat → Int32} (h : ModAt M m) (hT : TR (mI M (m + 1)) D V) (hI : TI D V) (hf : f < 16) (ht : top < 16) : cl 142 [.ref m, .int (nI f), .int (nI top)] M = some (some (.int (if lies D 16 (nI f) (nI top) = true then 1 else 0)), M) := by
  show rn 142 0 [some (.ref m), some (.int (nI f)), some (.int (nI top)), none] [] M = _
  simp only [t142_0, t142_1, t142_3, t142_5, t142_8, t142_9, t142_10, t142_13, t142_14, t142_15, t142_16, t142_19, t142_20, t142_23, t142_24, t142_25, t142_28, t142_29, t142_32, t142_33]
  exact c_under h hT ht 16 _ _ (hI.2.2.2.2 f hf)
theorem th_T {w D V : Nat → Int32} (hT : TR w D V) {f : Nat} (hf : f < 16) : (w (322 + 3 * f) = 1) = (¬ V f = -6) := by
  rw [(hT f hf).1]
  by_cases h : V f = -6 <;> simp [h]
theorem c_mFilesIn {M : SM} {m d : Nat} {D V : Nat → Int32} (h : ModAt M m) (hT : TR (mI M (m + 1)) D V) (hI : TI D V) (hd : d < 16) : cl 143 [.ref m, .int (nI d)] M = some (some (.int (m32 (fun g => decide (D g = nI d)) 16)), M) := by
  show rn 143 0 [some (.ref m), some (.int (nI d)), none, none] [] M = _
  have h1 := h.1
  generalize hp : (fun g => decide (D g = nI d)) = p
  have hpk : ∀ k, p k = decide (D k = nI d) := fun k => by rw [← hp]
  have e6 : ((-6 : Int32) = nI d) = False := eq_false (fun z => (of_eq_false (nI_m6 hd)) z.symm)
  generalize hR : m32 p 16 = R
  have lp : ∀ k, k ≤ 16 → rn 143 4 [some (.ref m), some (.int (nI d)), some (.int (m32 p k)), some (.int (nI k))] [] M = some (some (.int R), M) := by
    refine loopB ?_ ?_
    · rw [t143_4]
      simp only [t143_0, t143_1, t143_2, t143_3, t143_5, t143_7, t143_10, t143_11, t143_12, t143_13, t143_16, t143_19, t143_20, t143_21, t143_22, t143_25, t143_26, t143_29, t143_30, t143_31, t143_32, t143_35, t143_36, t143_37, t143_38, t143_41, t143_44, t143_45, le16 (show 16 < 2147483648 by omega), Nat.le_refl, ↓reduceIte, hR]
    · intro k hk ih
      rw [t143_4]
      have hle : ¬ 16 ≤ k := by omega
      have hpk := hpk k
      have et := c_mThere h hk
      simp only [th_T hT hk] at et
      have e := c_filePart h hk (show 1 < 3 by decide)
      rw [show nI 1 = 1 from rfl, (hT k hk).2.1] at e
      by_cases hv : V k = -6
      · have hD := hI.2.2.1 k hk hv
        rw [hD] at hpk
        simp only [e6, decide_false] at hpk
        simp only [t143_0, t143_1, t143_2, t143_3, t143_5, t143_7, t143_10, t143_11, t143_12, t143_13, t143_16, t143_19, t143_20, t143_21, t143_22, t143_25, t143_26, t143_29, t143_30, t143_31, t143_32, t143_35, t143_36, t143_37, t143_38, t143_41, t143_44, t143_45, le16 (show k < 2147483648 by omega), hle, h1, et, cbn_i, hv, ↓reduceIte, not_true_eq_false, n1, Int32.or_zero]
        simpa only [m32, hpk, ↓reduceIte, Bool.false_eq_true] using ih
      · by_cases hq : D k = nI d
        · simp only [hq, decide_true] at hpk
          have one0 : ((1 : Int32) = 0) = False := by decide
          simp only [t143_0, t143_1, t143_2, t143_3, t143_5, t143_7, t143_10, t143_11, t143_12, t143_13, t143_16, t143_19, t143_20, t143_21, t143_22, t143_25, t143_26, t143_29, t143_30, t143_31, t143_32, t143_35, t143_36, t143_37, t143_38, t143_41, t143_44, t143_45, le16 (show k < 2147483648 by omega), hle, h1, et, e, cbn_i, hv, hq, ↓reduceIte, not_false_eq_true, not_true_eq_false, n1, one0]
          simpa only [m32, hpk, ↓reduceIte] using ih
        · simp only [hq, decide_false] at hpk
          have one0 : ((1 : Int32) = 0) = False := by decide
          simp only [t143_0, t143_1, t143_2, t143_3, t143_5, t143_7, t143_10, t143_11, t143_12, t143_13, t143_16, t143_19, t143_20, t143_21, t143_22, t143_25, t143_26, t143_29, t143_30, t143_31, t143_32, t143_35, t143_36, t143_37, t143_38, t143_41, t143_44, t143_45, le16 (show k < 2147483648 by omega), hle, h1, et, e, cbn_i, hv, hq, ↓reduceIte, not_false_eq_true, not_true_eq_false, n1, one0, Int32.or_zero]
          simpa only [m32, hpk, ↓reduceIte, Bool.false_eq_true] using ih
  have h0 := lp 1 (by decide)
  have z1 : m32 p 1 = 0 := by
    have : p 0 = false := by rw [hpk, hI.1]; exact decide_eq_false (of_eq_false e6)
    simp [m32, this]
  rw [z1] at h0
  simp only [t143_0, t143_1, t143_2, t143_3, t143_5, t143_7, t143_10, t143_11, t143_12, t143_13, t143_16, t143_19, t143_20, t143_21, t143_22, t143_25, t143_26, t143_29, t143_30, t143_31, t143_32, t143_35, t143_36, t143_37, t143_38, t143_41, t143_44, t143_45]
  exact h0
theorem c_reasonOf {M : SM} {m e kd f : Nat} {a : Int32} {D V : Nat → Int32} (h : ModAt M m) (hT : TR (mI M (m + 1)) D V) (hI : TI D V) (he : e < 40) (hk : mI M (m + 1) (2 + 8 * e) = nI kd) (hf : mI M (m + 1) (2 + 8 * e + 1) = nI f) (ha : mI M (m + 1) (2 + 8 * e + 2) = a) (hok : okE kd f a) :
    cl 139 [.ref m, .int (nI e)] M = some (some (.int (rfs D V kd f a)), M) := by
  show rn 139 0 [some (.ref m), some (.int (nI e)), none, none, none] [] M = _
  obtain ⟨hk4, hf16, hf0, hdir, -⟩ := hok
  have h1 := h.1
  have p0 := c_part h he (show 0 < 8 by decide)
  have p1 := c_part h he (show 1 < 8 by decide)
  have p2 := c_part h he (show 2 < 8 by decide)
  rw [show nI 0 = 0 from rfl, show 2 + 8 * e + 0 = 2 + 8 * e from rfl, hk] at p0
  rw [show nI 1 = 1 from rfl, hf] at p1
  rw [show nI 2 = 2 from rfl, ha] at p2
  have pd := c_mHasDir h he
  rw [hk] at pd
  have tf := c_mThere h hf16
  simp only [th_T hT hf16] at tf
  have one0 : ((1 : Int32) = 0) = False := by decide
  match kd, hk4 with
  | 0, _ =>
    obtain ⟨j, hj, rfl⟩ := isF_of (hdir (Or.inl rfl))
    have tj := c_mThere h hj
    simp only [th_T hT hj] at tj
    by_cases hv : V f = -6 <;> by_cases hd : V j = -6 <;> simp [t139_0, t139_1, t139_2, t139_3, t139_6, t139_7, t139_8, t139_9, t139_10, t139_13, t139_14, t139_15, t139_16, t139_17, t139_20, t139_22, t139_23, t139_26, t139_27, t139_28, t139_31, t139_34, t139_35, t139_36, t139_37, t139_40, t139_41, t139_42, t139_45, t139_48, t139_49, t139_50, t139_51, t139_52, t139_55, t139_58, t139_59, t139_61, t139_64, t139_67, t139_68, t139_69, t139_70, t139_71, t139_74, t139_75, t139_77, t139_78, t139_81, t139_84, t139_85, t139_86, t139_87, t139_88, t139_91, t139_92, t139_93, t139_96, t139_99, t139_100, t139_103, t139_104, nI_0, h1, p0, p1, p2, pd, tf, tj, cbn_i, hv, hd, rfs, nI_c (show j < 2147483648 by omega)]
  | 1, _ =>
    have e : nI 1 = 1 := rfl
    by_cases hv : V f = -6 <;> simp [t139_0, t139_1, t139_2, t139_3, t139_6, t139_7, t139_8, t139_9, t139_10, t139_13, t139_14, t139_15, t139_16, t139_17, t139_20, t139_22, t139_23, t139_26, t139_27, t139_28, t139_31, t139_34, t139_35, t139_36, t139_37, t139_40, t139_41, t139_42, t139_45, t139_48, t139_49, t139_50, t139_51, t139_52, t139_55, t139_58, t139_59, t139_61, t139_64, t139_67, t139_68, t139_69, t139_70, t139_71, t139_74, t139_75, t139_77, t139_78, t139_81, t139_84, t139_85, t139_86, t139_87, t139_88, t139_91, t139_92, t139_93, t139_96, t139_99, t139_100, t139_103, t139_104, e, h1, p0, p1, p2, pd, tf, cbn_i, hv, rfs]
  | 2, _ =>
    have e : nI 2 = 2 := rfl
    obtain ⟨j, hj, rfl⟩ := isF_of (hdir (Or.inr rfl))
    have tj := c_mThere h hj
    simp only [th_T hT hj] at tj
    have hu := c_isUnder h hT hI hj hf16
    by_cases hv : V f = -6 <;> by_cases hd : V j = -6 <;> cases hl : lies D 16 (nI j) (nI f) <;> rw [hl] at hu <;> simp [t139_0, t139_1, t139_2, t139_3, t139_6, t139_7, t139_8, t139_9, t139_10, t139_13, t139_14, t139_15, t139_16, t139_17, t139_20, t139_22, t139_23, t139_26, t139_27, t139_28, t139_31, t139_34, t139_35, t139_36, t139_37, t139_40, t139_41, t139_42, t139_45, t139_48, t139_49, t139_50, t139_51, t139_52, t139_55, t139_58, t139_59, t139_61, t139_64, t139_67, t139_68, t139_69, t139_70, t139_71, t139_74, t139_75, t139_77, t139_78, t139_81, t139_84, t139_85, t139_86, t139_87, t139_88, t139_91, t139_92, t139_93, t139_96, t139_99, t139_100, t139_103, t139_104, e, h1, p0, p1, p2, pd, tf, tj, hu, cbn_i, hv, hd, rfs, nI_c (show j < 2147483648 by omega), hl]
  | 3, _ =>
    have e : nI 3 = 3 := rfl
    have hm := c_mFilesIn h hT hI hf16
    generalize hg : m32 (fun g => decide (D g = nI f)) 16 = g at hm
    by_cases hv : V f = -6 <;> by_cases hz : g = 0 <;> simp [t139_0, t139_1, t139_2, t139_3, t139_6, t139_7, t139_8, t139_9, t139_10, t139_13, t139_14, t139_15, t139_16, t139_17, t139_20, t139_22, t139_23, t139_26, t139_27, t139_28, t139_31, t139_34, t139_35, t139_36, t139_37, t139_40, t139_41, t139_42, t139_45, t139_48, t139_49, t139_50, t139_51, t139_52, t139_55, t139_58, t139_59, t139_61, t139_64, t139_67, t139_68, t139_69, t139_70, t139_71, t139_74, t139_75, t139_77, t139_78, t139_81, t139_84, t139_85, t139_86, t139_87, t139_88, t139_91, t139_92, t139_93, t139_96, t139_99, t139_100, t139_103, t139_104, e, h1, p0, p1, p2, pd, tf, hm, cbn_i, hv, rfs, hz, hg]
theorem rowF_lo {w : Nat → Int32} {f : Nat} {a b c : Int32} {j : Nat} (hj : j < 322) : rowF w f a b c j = w j := by
  unfold rowF
  rw [va_up_ne _ _ (by omega), va_up_ne _ _ (by omega), va_up_ne _ _ (by omega)]
theorem TR_set {w D V : Nat → Int32} (hT : TR w D V) {f : Nat} (hf : f < 16) (d v : Int32) : TR (rowF w f (if v = -6 then 0 else 1) d v) (va_up D f d) (va_up V f v) := by
  intro g hg
  by_cases h : g = f
  · subst h
    unfold rowF
    refine ⟨?_, ?_, ?_⟩
    · rw [va_up_ne _ _ (by omega), va_up_ne _ _ (by omega), va_up_self, va_up_self]
    · rw [va_up_ne _ _ (by omega), va_up_self, va_up_self]
    · rw [va_up_self, va_up_self]
  · obtain ⟨t1, t2, t3⟩ := hT g hg
    rw [va_up_ne _ _ h, va_up_ne _ _ h]
    unfold rowF
    refine ⟨?_, ?_, ?_⟩ <;> rw [va_up_ne _ _ (by omega), va_up_ne _ _ (by omega), va_up_ne _ _ (by omega)] <;> assumption
theorem c_plays {M : SM} {m e kd f : Nat} {a : Int32} {D V : Nat → Int32} (h : ModAt M m) (hT : TR (mI M (m + 1)) D V) (hI : TI D V) (he : e < 40) (hk : mI M (m + 1) (2 + 8 * e) = nI kd) (hf : mI M (m + 1) (2 + 8 * e + 1) = nI f) (ha : mI M (m + 1) (2 + 8 * e + 2) = a) (hok : okE kd f a) :
    ∃ w, cl 138 [.ref m, .int (nI e)] M = some (some (.int (rfs D V kd f a)), sI M (m + 1) w) ∧ (∀ j, j < 322 → w j = mI M (m + 1) j) ∧ TR w (if rfs D V kd f a = 0 then pD D kd f a else D) (if rfs D V kd f a = 0 then pV V kd f a else V) := by
  have hr := c_reasonOf h hT hI he hk hf ha hok
  obtain ⟨hk4, hf16, hf0, hdir, hw1⟩ := hok
  have h1 := h.1
  have p0 := c_part h he (show 0 < 8 by decide)
  have p1 := c_part h he (show 1 < 8 by decide)
  have p2 := c_part h he (show 2 < 8 by decide)
  rw [show nI 0 = 0 from rfl, show 2 + 8 * e + 0 = 2 + 8 * e from rfl, hk] at p0
  rw [show nI 1 = 1 from rfl, hf] at p1
  rw [show nI 2 = 2 from rfl, ha] at p2
  have fd := c_filePart h hf16 (show 1 < 3 by decide)
  have fv := c_filePart h hf16 (show 2 < 3 by decide)
  rw [show nI 1 = 1 from rfl, (hT f hf16).2.1] at fd
  rw [show nI 2 = 2 from rfl, (hT f hf16).2.2] at fv
  have sf := fun x y z => c_setFile h hf16 x y z
  generalize hx : rfs D V kd f a = x at hr
  by_cases hx0 : x = 0
  · rw [if_pos hx0, if_pos hx0]
    subst hx0
    match kd, hk4 with
    | 0, _ =>
      refine ⟨rowF (mI M (m + 1)) f 1 a 0, ?_, fun j hj => rowF_lo hj, ?_⟩
      · show rn 138 0 [some (.ref m), some (.int (nI e)), none, none, none] [] M = _
        simp [t138_0, t138_1, t138_2, t138_5, t138_6, t138_7, t138_8, t138_9, t138_12, t138_13, t138_14, t138_15, t138_16, t138_19, t138_21, t138_22, t138_25, t138_26, t138_27, t138_28, t138_31, t138_56, t138_57, t138_58, t138_59, t138_61, t138_62, t138_65, t138_68, t138_69, t138_70, t138_71, t138_72, t138_73, t138_74, t138_77, t138_79, t138_82, t138_85, t138_86, t138_87, t138_88, t138_90, t138_91, t138_92, t138_93, t138_96, t138_99, t138_102, t138_103, t138_104, t138_105, t138_107, t138_109, t138_112, t138_113, nI_0, h1, hr, p0, p1, p2, sf, cbn_i, cbn_v]
      · exact TR_set hT hf16 a 0
    | 1, _ =>
      have e1 : nI 1 = 1 := rfl
      refine ⟨rowF (mI M (m + 1)) f 1 (D f) a, ?_, fun j hj => rowF_lo hj, ?_⟩
      · show rn 138 0 [some (.ref m), some (.int (nI e)), none, none, none] [] M = _
        simp [t138_0, t138_1, t138_2, t138_5, t138_6, t138_7, t138_8, t138_9, t138_12, t138_13, t138_14, t138_15, t138_16, t138_19, t138_21, t138_22, t138_25, t138_26, t138_27, t138_28, t138_31, t138_56, t138_57, t138_58, t138_59, t138_61, t138_62, t138_65, t138_68, t138_69, t138_70, t138_71, t138_72, t138_73, t138_74, t138_77, t138_79, t138_82, t138_85, t138_86, t138_87, t138_88, t138_90, t138_91, t138_92, t138_93, t138_96, t138_99, t138_102, t138_103, t138_104, t138_105, t138_107, t138_109, t138_112, t138_113, e1, h1, hr, p0, p1, p2, sf, fd, cbn_i, cbn_v]
      · have := TR_set hT hf16 (D f) a
        rw [if_neg (hw1 rfl), va_up_id] at this
        exact this
    | 2, _ =>
      have e1 : nI 2 = 2 := rfl
      have hv : ¬ V f = -6 := fun hv => by
        have : rfs D V 2 f a = 2 := by simp [rfs, hv]
        rw [this] at hx
        cases hx
      refine ⟨rowF (mI M (m + 1)) f 1 a (V f), ?_, fun j hj => rowF_lo hj, ?_⟩
      · show rn 138 0 [some (.ref m), some (.int (nI e)), none, none, none] [] M = _
        simp [t138_0, t138_1, t138_2, t138_5, t138_6, t138_7, t138_8, t138_9, t138_12, t138_13, t138_14, t138_15, t138_16, t138_19, t138_21, t138_22, t138_25, t138_26, t138_27, t138_28, t138_31, t138_56, t138_57, t138_58, t138_59, t138_61, t138_62, t138_65, t138_68, t138_69, t138_70, t138_71, t138_72, t138_73, t138_74, t138_77, t138_79, t138_82, t138_85, t138_86, t138_87, t138_88, t138_90, t138_91, t138_92, t138_93, t138_96, t138_99, t138_102, t138_103, t138_104, t138_105, t138_107, t138_109, t138_112, t138_113, e1, h1, hr, p0, p1, p2, sf, fv, cbn_i, cbn_v]
      · have := TR_set hT hf16 a (V f)
        rw [if_neg hv, va_up_id] at this
        exact this
    | 3, _ =>
      have e1 : nI 3 = 3 := rfl
      refine ⟨rowF (mI M (m + 1)) f 0 (-6) (-6), ?_, fun j hj => rowF_lo hj, ?_⟩
      · show rn 138 0 [some (.ref m), some (.int (nI e)), none, none, none] [] M = _
        simp [t138_0, t138_1, t138_2, t138_5, t138_6, t138_7, t138_8, t138_9, t138_12, t138_13, t138_14, t138_15, t138_16, t138_19, t138_21, t138_22, t138_25, t138_26, t138_27, t138_28, t138_31, t138_56, t138_57, t138_58, t138_59, t138_61, t138_62, t138_65, t138_68, t138_69, t138_70, t138_71, t138_72, t138_73, t138_74, t138_77, t138_79, t138_82, t138_85, t138_86, t138_87, t138_88, t138_90, t138_91, t138_92, t138_93, t138_96, t138_99, t138_102, t138_103, t138_104, t138_105, t138_107, t138_109, t138_112, t138_113, e1, h1, hr, p0, p1, p2, sf, cbn_i, cbn_v]
      · exact TR_set hT hf16 (-6) (-6)
  · rw [if_neg hx0, if_neg hx0]
    refine ⟨mI M (m + 1), ?_, fun j hj => rfl, hT⟩
    show rn 138 0 [some (.ref m), some (.int (nI e)), none, none, none] [] M = _
    rw [sI_self]
    simp [t138_0, t138_1, t138_2, t138_5, t138_6, t138_7, t138_8, t138_9, t138_12, t138_13, t138_14, t138_15, t138_16, t138_19, t138_21, t138_22, t138_25, t138_26, t138_27, t138_28, t138_31, t138_56, t138_57, t138_58, t138_59, t138_61, t138_62, t138_65, t138_68, t138_69, t138_70, t138_71, t138_72, t138_73, t138_74, t138_77, t138_79, t138_82, t138_85, t138_86, t138_87, t138_88, t138_90, t138_91, t138_92, t138_93, t138_96, t138_99, t138_102, t138_103, t138_104, t138_105, t138_107, t138_109, t138_112, t138_113, h1, hr, p1, p2, cbn_i, hx0]
