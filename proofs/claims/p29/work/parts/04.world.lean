/-! locals by places, the world of the machine -/
/-- the locals that are known: a long counts only while its second half is free -/
def lA (lv : List (Option Value)) : List (Nat × Value) := (List.range lv.length).filterMap fun i => match lv[i]? with
  | some (some v) => if v.category = 2 ∧ lv[i + 1]? ≠ some none then none else some (i, v)
  | _ => none
theorem lA_mem {lv : List (Option Value)} {i : Nat} {v : Value} : (i, v) ∈ lA lv ↔ lv[i]? = some (some v) ∧ (v.category = 2 → lv[i + 1]? = some none) := by
  unfold lA
  rw [List.mem_filterMap]
  constructor
  · rintro ⟨j, hj, h⟩
    split at h
    · rename_i w hw
      split at h
      · cases h
      · rename_i hn
        cases h
        refine ⟨hw, fun hc => ?_⟩
        by_cases h2 : lv[i + 1]? = some none
        · exact h2
        · exact absurd ⟨hc, h2⟩ hn
    · cases h
  · rintro ⟨h1, h2⟩
    have hl : i < lv.length := (List.getElem?_eq_some_iff.mp h1).1
    refine ⟨i, List.mem_range.mpr hl, ?_⟩
    rw [h1]
    show (if v.category = 2 ∧ lv[i + 1]? ≠ some none then none else some (i, v)) = some (i, v)
    rw [if_neg]
    rintro ⟨a, b⟩
    exact b (h2 a)
theorem lv_mono {ls : Array Slot} {n : Nat} {l l' : List (Nat × Value)} (h : lv_has ls n l) (hm : ∀ x ∈ l', x ∈ l) : lv_has ls n l' := ⟨h.1, h.2.1, fun x hx => h.2.2 x (hm x hx)⟩
theorem lA_get {ls : Array Slot} {n : Nat} {lv : List (Option Value)} (h : lv_has ls n (lA lv)) {i : Nat} {v : Value} (h1 : lv[i]? = some (some v)) (h2 : v.category = 2 → lv[i + 1]? = some none) : ls[i]? = some (.val v) := h.2.2 (i, v) (lA_mem.mpr ⟨h1, h2⟩)
theorem lA_set1 {ls : Array Slot} {n i : Nat} {v : Value} {lv : List (Option Value)} (h : lv_has ls n ((i, v) :: (lA lv).filter (fun q => !(q.1 == i) && !(q.1 + 1 == i && q.2.category == 2)))) (hi : i < lv.length) : lv_has ls n (lA (lv.set i (some v))) := by
  refine lv_mono h fun x hx => ?_
  obtain ⟨j, w⟩ := x
  obtain ⟨h1, h2⟩ := lA_mem.mp hx
  by_cases hj : j = i
  · subst hj
    rw [List.getElem?_set_self hi] at h1
    cases h1
    exact List.mem_cons_self
  · rw [List.getElem?_set_ne (Ne.symm hj)] at h1
    have h3 : w.category = 2 → ¬ j + 1 = i := fun hc e => by
      have := h2 hc
      rw [e, List.getElem?_set_self hi] at this
      cases this
    refine List.mem_cons_of_mem _ (List.mem_filter.mpr ⟨lA_mem.mpr ⟨h1, fun hc => ?_⟩, ?_⟩)
    · have := h2 hc
      rwa [List.getElem?_set_ne (Ne.symm (h3 hc))] at this
    · have e1 : (j == i) = false := beq_eq_false_iff_ne.mpr hj
      by_cases hc : w.category = 2
      · have e2 : (j + 1 == i) = false := beq_eq_false_iff_ne.mpr (h3 hc)
        simp [e1, e2]
      · have e2 : (w.category == 2) = false := beq_eq_false_iff_ne.mpr hc
        simp [e1, e2]
theorem lA_set2 {ls : Array Slot} {n i : Nat} {v : Value} {lv : List (Option Value)} (h : lv_has ls n ((i, v) :: (lA lv).filter (fun q => !(q.1 == i) && (!(q.1 == i + 1) && !(q.1 + 1 == i && q.2.category == 2))))) (hi : i + 1 < lv.length) : lv_has ls n (lA ((lv.set i (some v)).set (i + 1) none)) := by
  refine lv_mono h fun x hx => ?_
  obtain ⟨j, w⟩ := x
  obtain ⟨h1, h2⟩ := lA_mem.mp hx
  have hl2 : i + 1 < (lv.set i (some v)).length := by rw [List.length_set]; exact hi
  by_cases hj : j = i
  · subst hj
    rw [List.getElem?_set_ne (by omega), List.getElem?_set_self (by omega)] at h1
    cases h1
    exact List.mem_cons_self
  · by_cases hj2 : j = i + 1
    · subst hj2
      rw [List.getElem?_set_self hl2] at h1
      cases h1
    · rw [List.getElem?_set_ne (Ne.symm hj2), List.getElem?_set_ne (Ne.symm hj)] at h1
      have h3 : w.category = 2 → ¬ j + 1 = i := fun hc e => by
        have := h2 hc
        rw [e, List.getElem?_set_ne (by omega), List.getElem?_set_self (by omega)] at this
        cases this
      refine List.mem_cons_of_mem _ (List.mem_filter.mpr ⟨lA_mem.mpr ⟨h1, fun hc => ?_⟩, ?_⟩)
      · have := h2 hc
        rwa [List.getElem?_set_ne (by omega), List.getElem?_set_ne (Ne.symm (h3 hc))] at this
      · have e1 : (j == i) = false := beq_eq_false_iff_ne.mpr hj
        have e3 : (j == i + 1) = false := beq_eq_false_iff_ne.mpr hj2
        by_cases hc : w.category = 2
        · have e2 : (j + 1 == i) = false := beq_eq_false_iff_ne.mpr (h3 hc)
          simp [e1, e2, e3]
        · have e2 : (w.category == 2) = false := beq_eq_false_iff_ne.mpr hc
          simp [e1, e2, e3]
theorem entA_args : ∀ (vs : List Value) (off j : Nat) (w : Value), (entA vs)[j]? = some (some w) → (off + j, w) ∈ lv_args off vs
  | [], _, _, _, h => by simp [entA] at h
  | v :: vs, off, j, w, h => by
    unfold entA at h
    unfold lv_args
    split at h
    · rename_i hc
      rw [if_pos hc]
      match j, h with
      | 0, h => simp at h; rw [← h]; exact List.mem_cons_self
      | 1, h => simp at h
      | j + 2, h =>
        have := entA_args vs (off + 2) j w (by simpa using h)
        rw [show off + (j + 2) = off + 2 + j by omega]
        exact List.mem_cons_of_mem _ this
    · rename_i hc
      rw [if_neg hc]
      match j, h with
      | 0, h => simp at h; rw [← h]; exact List.mem_cons_self
      | j + 1, h =>
        have := entA_args vs (off + 1) j w (by simpa using h)
        rw [show off + (j + 1) = off + 1 + j by omega]
        exact List.mem_cons_of_mem _ this
theorem entA_len : ∀ vs : List Value, (entA vs).length = (lg_sl vs).length
  | [] => rfl
  | v :: vs => by
    unfold entA
    have e : lg_sl (v :: vs) = (if v.category = 2 then [.val v, .second] else [.val v]) ++ lg_sl vs := rfl
    rw [e]
    split <;> simp [entA_len vs] <;> omega
theorem ent_has (q : Nat) (vs : List Value) (h : (entA vs).length ≤ mL q) : lv_has ((lg_sl vs ++ List.replicate (mL q - (lg_sl vs).length) Slot.unset).toArray) (mL q) (lA (ent q vs)) := by
  refine lv_mono (lv_entry vs (n := mL q) (by rw [← entA_len]; exact h)) fun x hx => ?_
  obtain ⟨j, w⟩ := x
  obtain ⟨h1, -⟩ := lA_mem.mp hx
  unfold ent at h1
  have hj : j < (entA vs).length := by
    rcases Nat.lt_or_ge j (entA vs).length with q | q
    · exact q
    · rw [List.getElem?_append_right q] at h1
      have := List.mem_of_getElem? h1
      have := List.eq_of_mem_replicate this
      cases this
  rw [List.getElem?_append_left hj] at h1
  have := entA_args vs 0 j w h1
  rwa [Nat.zero_add] at this
theorem ent_len (q : Nat) (vs : List Value) (h : (entA vs).length ≤ mL q) : (ent q vs).length = mL q := by
  unfold ent
  rw [List.length_append, List.length_replicate]
  omega
/-! the world -/
/-- classes and slots; the first new address, the arrays' classes; the script: its cell, length, ints, the heap at the start -/
abbrev GT : Type := va_G × (Nat × (Nat → ClassId)) × (Nat × Nat × (Nat → Int32) × Heap)
def gB (G : GT) : Nat := G.2.1.1
def gR (G : GT) : Nat → ClassId := G.2.1.2
def gb (G : GT) : Nat := G.2.2.1
def gL (G : GT) : Nat := G.2.2.2.1
def gX (G : GT) : Nat → Int32 := G.2.2.2.2.1
def gH (G : GT) : Heap := G.2.2.2.2.2
def arTy : Nat → FieldType := fun k => if k = 1 then .int else if k = 2 then .long else .object (AON k)
def elV (M : SM) (a k j : Nat) : Value := if k = 1 then .int (mI M a j) else if k = 2 then .long (mJ M a j) else va_rf (mP M a j)
def wAt (G : GT) (M : SM) (a : Nat) (H : Heap) : Prop :=
  ((mK M a).1 = 5 → a = gb G ∧ (mK M a).2 = gL G ∧ mI M a = gX G ∧ H[a]? = (gH G)[a]?) ∧
  (∀ k, (mK M a).1 = k → 1 ≤ k → k ≤ 4 → gB G ≤ a ∧ H[a]? = some (arrV (gR G k) (mK M a).2 (elV M a k))) ∧
  (∀ ci, ci < nCl → (mK M a).1 = 10 + ci → gB G ≤ a ∧ t_OB a (G.1.1 ci) (NN ci) (G.1.2 ci) H (fv M a ci))
def Wld (G : GT) (M : SM) (H : Heap) : Prop := H.size = mS M ∧ gB G ≤ mS M ∧ gb G < gB G ∧ ∀ a, wAt G M a H
def nstN (e : Nat × Nat × Nat × Nat × Nat) : Cond := .methodLinkNest (CN e.1) e.2.1 (yN e.2.2.1) NH
def Kn (G : GT) (U : State) : Prop := va_K G.1 classes [] U ∧ (∀ k, 1 ≤ k → k ≤ 4 → ArrOfT U (gR G k) (arTy k) ∧ va_RA U (gR G k) (arTy k)) ∧ va_X (gb G) (gL G) (gX G) U (gH G) ∧ (∀ e ∈ calT, e.2.2.2.1 % 2 = 1 → va_Nw (nstN e) U) ∧ va_AO (AON 3) U ∧ va_AO (AON 4) U
theorem Kn.moved {G : GT} {s U : State} (hW : s.WarmedH U.vm) (h : Kn G s) : Kn G U :=
  ⟨h.1.moved hW.alike, fun k h1 h2 => ⟨arrOfT_moved hW.alike (h.2.1 k h1 h2).1, (h.2.1 k h1 h2).2.moved hW.alike⟩, h.2.2.1.moved hW.alike, fun e he ho => va_Nw.warmM hW (h.2.2.2.1 e he ho), h.2.2.2.2.1.moved hW.alike, h.2.2.2.2.2.moved hW.alike⟩
theorem Kn.blind {G : GT} {U : State} {g : JFrame} {mk : MethodId} {a : Array Value} (h : Kn G U) : Kn G (U.calling g mk a) :=
  ⟨h.1.moved (u := U) (U := U.calling g mk a) (Vm.Alike.refl U.vm), fun k h1 h2 => ⟨arrOfT_moved (u := U) (Vm.Alike.refl U.vm) (h.2.1 k h1 h2).1, (h.2.1 k h1 h2).2.moved (u := U) (U := U.calling g mk a) (Vm.Alike.refl U.vm)⟩, h.2.2.1.moved (u := U) (U := U.calling g mk a) (Vm.Alike.refl U.vm), fun e he ho => va_Nw.same rfl (u := U) (U := U.calling g mk a) rfl (h.2.2.2.1 e he ho), h.2.2.2.2.1.moved (u := U) (U := U.calling g mk a) (Vm.Alike.refl U.vm), h.2.2.2.2.2.moved (u := U) (U := U.calling g mk a) (Vm.Alike.refl U.vm)⟩
theorem wAt.kept {G : GT} {M M' : SM} {a : Nat} {H H' : Heap} (h : wAt G M a H) (hk : mK M' a = mK M a) (hi : mI M' a = mI M a) (hj : mJ M' a = mJ M a) (hp : mP M' a = mP M a) (hg : gb G < H.size) (hh : a < H.size → H'[a]? = H[a]?) : wAt G M' a H' := by
  have e1 : ∀ k, elV M' a k = elV M a k := fun k => by funext j; simp only [elV, hi, hj, hp]
  have e2 : ∀ ci, fv M' a ci = fv M a ci := fun ci => by funext j; simp only [fv, hi, hj, hp]
  refine ⟨fun h5 => ?_, fun k h1 h2 h3 => ?_, fun ci h1 h2 => ?_⟩
  · rw [hk] at h5 ⊢
    obtain ⟨a1, a2, a3, a4⟩ := h.1 h5
    exact ⟨a1, a2, hi.trans a3, (hh (by rw [a1]; exact hg)).trans a4⟩
  · rw [hk] at h1 ⊢
    obtain ⟨a1, a2⟩ := h.2.1 k h1 h2 h3
    exact ⟨a1, by rw [hh (Array.getElem?_eq_some_iff.mp a2).1, a2, e1]⟩
  · rw [hk] at h2
    obtain ⟨a1, a2⟩ := h.2.2 ci h1 h2
    exact ⟨a1, by rw [e2]; exact a2.kept (hh (by obtain ⟨cell, q, -⟩ := a2; exact (Array.getElem?_eq_some_iff.mp q).1))⟩
/-- one cell is written -/
theorem Wld.upd {G : GT} {M M' : SM} {H H' : Heap} {a : Nat} (h : Wld G M H) (hK : mK M' = mK M) (hS : mS M' = mS M) (hi : ∀ b, b ≠ a → mI M' b = mI M b) (hj : ∀ b, b ≠ a → mJ M' b = mJ M b) (hp : ∀ b, b ≠ a → mP M' b = mP M b) (hz : H'.size = H.size) (ho : ∀ b, b ≠ a → H'[b]? = H[b]?) (ha : wAt G M' a H') : Wld G M' H' := by
  refine ⟨by rw [hz, hS]; exact h.1, by rw [hS]; exact h.2.1, h.2.2.1, fun b => ?_⟩
  by_cases hb : b = a
  · subst hb; exact ha
  · exact (h.2.2.2 b).kept (by rw [hK]) (hi b hb) (hj b hb) (hp b hb) (by rw [h.1]; have := h.2.1; have := h.2.2.1; omega) (fun _ => ho b hb)
theorem mI_nw {M : SM} {kd : Nat × Nat} {u b : Nat} (h : b ≠ mS M) : mI (nw M kd u) b = mI M b := if_neg h
theorem mJ_nw {M : SM} {kd : Nat × Nat} {u b : Nat} (h : b ≠ mS M) : mJ (nw M kd u) b = mJ M b := if_neg h
theorem mP_nw {M : SM} {kd : Nat × Nat} {u b : Nat} (h : b ≠ mS M) : mP (nw M kd u) b = mP M b := if_neg h
theorem mK_nw {M : SM} {kd : Nat × Nat} {u b : Nat} (h : b ≠ mS M) : mK (nw M kd u) b = mK M b := if_neg h
theorem mI_nw0 (M : SM) (kd : Nat × Nat) (u : Nat) : mI (nw M kd u) (mS M) = fun _ => 0 := if_pos rfl
theorem mJ_nw0 (M : SM) (kd : Nat × Nat) (u : Nat) : mJ (nw M kd u) (mS M) = fun _ => 0 := if_pos rfl
theorem mP_nw0 (M : SM) (kd : Nat × Nat) (u : Nat) : mP (nw M kd u) (mS M) = fun _ => none := if_pos rfl
theorem mK_nw0 (M : SM) (kd : Nat × Nat) (u : Nat) : mK (nw M kd u) (mS M) = kd := if_pos rfl
/-- one cell is made -/
theorem Wld.push {G : GT} {M : SM} {H H' : Heap} {kd : Nat × Nat} {u : Nat} (h : Wld G M H) (hz : H'.size = mS M + 1) (ho : ∀ b, b < mS M → H'[b]? = H[b]?) (ha : wAt G (nw M kd u) (mS M) H') : Wld G (nw M kd u) H' := by
  refine ⟨hz, Nat.le_succ_of_le h.2.1, h.2.2.1, fun b => ?_⟩
  by_cases hb : b = mS M
  · subst hb; exact ha
  · exact (h.2.2.2 b).kept (mK_nw hb) (mI_nw hb) (mJ_nw hb) (mP_nw hb) (by rw [h.1]; have := h.2.1; have := h.2.2.1; omega) (fun hl => ho b (by rw [← h.1]; exact hl))
theorem mI_sI (M : SM) (a : Nat) (f : Nat → Int32) (b : Nat) : mI (sI M a f) b = if b = a then f else mI M b := rfl
theorem mJ_sJ (M : SM) (a : Nat) (f : Nat → Int64) (b : Nat) : mJ (sJ M a f) b = if b = a then f else mJ M b := rfl
theorem mP_sP (M : SM) (a : Nat) (f : Nat → Option Nat) (b : Nat) : mP (sP M a f) b = if b = a then f else mP M b := rfl
theorem Wld.sI {G : GT} {M : SM} {H H' : Heap} {a : Nat} {f : Nat → Int32} (h : Wld G M H) (hz : H'.size = H.size) (ho : ∀ b, b ≠ a → H'[b]? = H[b]?) (ha : wAt G (sI M a f) a H') : Wld G (sI M a f) H' :=
  h.upd rfl rfl (fun b hb => by rw [mI_sI, if_neg hb]) (fun _ _ => rfl) (fun _ _ => rfl) hz ho ha
theorem Wld.sJ {G : GT} {M : SM} {H H' : Heap} {a : Nat} {f : Nat → Int64} (h : Wld G M H) (hz : H'.size = H.size) (ho : ∀ b, b ≠ a → H'[b]? = H[b]?) (ha : wAt G (sJ M a f) a H') : Wld G (sJ M a f) H' :=
  h.upd rfl rfl (fun _ _ => rfl) (fun b hb => by rw [mJ_sJ, if_neg hb]) (fun _ _ => rfl) hz ho ha
theorem Wld.sP {G : GT} {M : SM} {H H' : Heap} {a : Nat} {f : Nat → Option Nat} (h : Wld G M H) (hz : H'.size = H.size) (ho : ∀ b, b ≠ a → H'[b]? = H[b]?) (ha : wAt G (sP M a f) a H') : Wld G (sP M a f) H' :=
  h.upd rfl rfl (fun _ _ => rfl) (fun _ _ => rfl) (fun b hb => by rw [mP_sP, if_neg hb]) hz ho ha
/-- what holds along a method -/
def Cx (G : GT) (q : Nat) (p : Program) (R : Room) (s : State) (m : MethodId) (args : Array Value) (meth : Method) (c : Code) : Prop :=
  p.tables.exec = Jvm.exec ∧ c.code = mB q ∧ c.maxLocals = mL q ∧ s.vm.findClass (CN (ow q)) = some m.cls ∧ (∀ w ∈ lw_gd, w.before args s = true) ∧ Kn G s ∧ (isI q = true → meth.name = "<init>") ∧ dp q ≤ R.frames ∧ 44 * dp q ≤ R.locals
def Sd (G : GT) (q : Nat) (M : SM) (H : Heap) (locs : List Loc) (ls : Array Slot) (lv : List (Option Value)) : Prop := Wld G M H ∧ (∀ x ∈ locs, gB G ≤ x.base) ∧ lv_has ls (mL q) (lA lv) ∧ lv.length = mL q
theorem Sd.heap {G : GT} {q : Nat} {M M' : SM} {H H' : Heap} {locs : List Loc} {ls : Array Slot} {lv : List (Option Value)} {a k : Nat} (h : Sd G q M H locs ls lv) (hw : Wld G M' H') (ha : gB G ≤ a) : Sd G q M' H' (locs ++ [⟨a, k⟩]) ls lv := by
  refine ⟨hw, fun x hx => ?_, h.2.2⟩
  rcases List.mem_append.mp hx with h1 | h1
  · exact h.2.1 x h1
  · rw [List.mem_singleton.mp h1]; exact ha
theorem inR_vp {i : Int32} {n : Nat} (h : inR i n) : ¬ (i < 0 ∨ n ≤ i.toNatClampNeg) := fun q => q.elim h.1 (fun z => absurd h.2 (Nat.not_lt.mpr z))
