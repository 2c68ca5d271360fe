/-! new cells, arraycopy, Object's constructor -/
theorem ncl_spec {own i ci : Nat} (h : ncl own i = some ci) : Cond.classLink (CN own) i (CN ci) ∈ lw_gd := by
  unfold ncl at h
  cases hf : nclT.find? (fun e => e.1 == own && e.2.1 == i) with
  | none => rw [hf] at h; cases h
  | some e =>
    rw [hf] at h
    cases h
    have h1 := List.find?_some hf
    simp only [Bool.and_eq_true, beq_iff_eq] at h1
    obtain ⟨rfl, rfl⟩ := h1
    exact hasW_in (List.all_eq_true.mp nclA e (List.mem_of_find?_eq_some hf))
theorem cst_spec {own i : Nat} {x : Int64} (h : cst own i = some x) : Cond.constantLong (CN own) i x ∈ lw_gd := by
  unfold cst at h
  cases hf : cstT.find? (fun e => e.1 == own && e.2.1 == i) with
  | none => rw [hf] at h; cases h
  | some e =>
    rw [hf] at h
    cases h
    have h1 := List.find?_some hf
    simp only [Bool.and_eq_true, beq_iff_eq] at h1
    obtain ⟨rfl, rfl⟩ := h1
    exact hasW_in (List.all_eq_true.mp cstA e (List.mem_of_find?_eq_some hf))
theorem cni_spec {own i : Nat} {x : Int32} (h : cni own i = some x) : Cond.constant (CN own) i x ∈ lw_gd := by
  unfold cni at h
  cases hf : cniT.find? (fun e => e.1 == own && e.2.1 == i) with
  | none => rw [hf] at h; cases h
  | some e =>
    rw [hf] at h
    cases h
    have h1 := List.find?_some hf
    simp only [Bool.and_eq_true, beq_iff_eq] at h1
    obtain ⟨rfl, rfl⟩ := h1
    exact hasW_in (List.all_eq_true.mp cniA e (List.mem_of_find?_eq_some hf))
theorem obj_spec {own i : Nat} (h : isObj own i = true) : Cond.methodLink (CN own) i objectInit ∈ lw_gd := by
  obtain ⟨e, he, h1⟩ := List.any_eq_true.mp h
  simp only [Bool.and_eq_true, beq_iff_eq] at h1
  obtain ⟨rfl, rfl⟩ := h1
  exact hasW_in (List.all_eq_true.mp objA e he)
theorem cpy_spec {own i : Nat} (h : isCpy own i = true) : Cond.methodLink (CN own) i arraycopyName ∈ lw_gd := by
  obtain ⟨e, he, h1⟩ := List.any_eq_true.mp h
  simp only [Bool.and_eq_true, beq_iff_eq] at h1
  obtain ⟨rfl, rfl⟩ := h1
  exact hasW_in (List.all_eq_true.mp cpyA e he)
theorem nn_clamp {z : Int32} (hz : ¬ z < 0) : z.toInt = (z.toNatClampNeg : Int) := by
  have hz0 : (0 : Int) ≤ z.toInt := by
    have := Int32.not_lt.mp hz
    simpa using Int32.le_iff_toInt_le.mp this
  show z.toInt = ((z.toInt.toNat : Nat) : Int)
  omega
theorem le_clamp {z : Int32} (h : z ≤ 100000) : z.toNatClampNeg ≤ 100000 := by
  have := Int32.le_iff_toInt_le.mp h
  have e : (100000 : Int32).toInt = 100000 := by decide
  show z.toInt.toNat ≤ 100000
  omega
section CL
variable {p : Program} {l : Launch} {e : Env} {R : Room} {s : State} {m : MethodId} {args : Array Value} {below : List Frame} {meth : Method} {c : Code} {H : Heap} {locs : List Loc} {cells slots : Nat} {Q : State → Prop}
variable {G : GT} {q : Nat} {M : SM} {pc : Nat} {ls : Array Slot} {lv : List (Option Value)} {rest : List Value}
theorem s_new (C : Cx G q p R s m args meth c) (S : Sd G q M H locs ls lv) {i ci : Nat} (hf : ncl (ow q) i = some ci) (hci : ci < nCl) (hcells : cells + 1 ≤ R.cells) (hslots : slots + NN ci ≤ R.slots) (hd : decode (mB q) pc = .ok (.new i, 3))
    (kk : ∀ H1 : Heap, Sd G q (nw M (10 + ci, 0) (NN ci)) H1 locs ls lv → W p l e R s m args below meth c H1 locs (cells + 1) (slots + NN ci) Q (F0 m (pc + 3) ls (.ref (mS M) :: rest))) : W p l e R s m args below meth c H locs cells slots Q (F0 m pc ls rest) := by
  obtain ⟨hx, hb, -, hown, hts, hK, -⟩ := C
  have hKn := hK.1.1 ci _ (cls_at ci hci)
  have hi := List.all_eq_true.mp insA ci (List.mem_range.mpr hci)
  rw [Bool.and_eq_true] at hi
  refine W.newcK hx hb hown (hts _ (ncl_spec hf)) (hts _ (hasW_in hi.1)) (hts _ (hasW_in hi.2)) rfl hd hcells hslots hKn.2.1 S.1.1 fun H1 kC hkC e1 z1 o1 => ?_
  refine kk H1 ⟨S.1.push z1 (fun b hb => o1 b hb) ?_, S.2⟩
  refine wAt_obj hci (mK_nw0 _ _ _) S.1.2.1 ((u_born (tT ci) hts (lay_in hci) hKn hkC e1 (fun k hk => (ty_ok hci hk).1)).to fun k hk => ?_)
  rw [(ty_ok hci hk).2.2]
  unfold fv
  rw [mI_nw0, mJ_nw0, mP_nw0]
  generalize fT ci k = z
  match z with
  | 0 => rfl
  | 1 => rfl
  | 2 => rfl
  | n + 3 => rfl
theorem s_newI (C : Cx G q p R s m args meth c) (S : Sd G q M H locs ls lv) {n : Int32} (h0 : 0 ≤ n) (h1 : n ≤ 100000) (hcells : cells + 1 ≤ R.cells) (hslots : slots + n.toNatClampNeg ≤ R.slots) (hd : decode (mB q) pc = .ok (.newarray .int, 2))
    (kk : ∀ H1 : Heap, Sd G q (nw M (1, n.toNatClampNeg) n.toNatClampNeg) H1 locs ls lv → W p l e R s m args below meth c H1 locs (cells + 1) (slots + n.toNatClampNeg) Q (F0 m (pc + 2) ls (.ref (mS M) :: rest))) : W p l e R s m args below meth c H locs cells slots Q (F0 m pc ls (.int n :: rest)) := by
  obtain ⟨hx, hb, -, hown, hts, hK, -⟩ := C
  have hc := le_clamp h1
  have ha := arcA
  rw [Bool.and_eq_true] at ha
  refine va_newaK (atype := .int) hx hb (hts _ (hasW_in ha.1)) rfl hd rfl (Int32.not_lt.mpr h0) rfl (by show n.toNatClampNeg * 4 ≤ _; omega) hcells hslots S.1.1 fun H1 cA e1 z1 o1 hAr hNm => ?_
  have hcA : cA = gR G 1 := Option.some.inj (hNm.symm.trans (hK.2.1 1 (by omega) (by omega)).2)
  subst hcA
  refine kk H1 ⟨S.1.push z1 (fun b hb => o1 b hb) (wAt_arr (k := 1) (n := n.toNatClampNeg) (by omega) (by omega) (mK_nw0 _ _ _) S.1.2.1 ?_), S.2⟩
  rw [e1, elI, mI_nw0]
  rfl
theorem s_newJ (C : Cx G q p R s m args meth c) (S : Sd G q M H locs ls lv) {n : Int32} (h0 : 0 ≤ n) (h1 : n ≤ 100000) (hcells : cells + 1 ≤ R.cells) (hslots : slots + n.toNatClampNeg ≤ R.slots) (hd : decode (mB q) pc = .ok (.newarray .long, 2))
    (kk : ∀ H1 : Heap, Sd G q (nw M (2, n.toNatClampNeg) n.toNatClampNeg) H1 locs ls lv → W p l e R s m args below meth c H1 locs (cells + 1) (slots + n.toNatClampNeg) Q (F0 m (pc + 2) ls (.ref (mS M) :: rest))) : W p l e R s m args below meth c H locs cells slots Q (F0 m pc ls (.int n :: rest)) := by
  obtain ⟨hx, hb, -, hown, hts, hK, -⟩ := C
  have hc := le_clamp h1
  have ha := arcA
  rw [Bool.and_eq_true] at ha
  refine va_newaK (atype := .long) hx hb (hts _ (hasW_in ha.2)) rfl hd rfl (Int32.not_lt.mpr h0) rfl (by show n.toNatClampNeg * 8 ≤ _; omega) hcells hslots S.1.1 fun H1 cA e1 z1 o1 hAr hNm => ?_
  have hcA : cA = gR G 2 := Option.some.inj (hNm.symm.trans (hK.2.1 2 (by omega) (by omega)).2)
  subst hcA
  refine kk H1 ⟨S.1.push z1 (fun b hb => o1 b hb) (wAt_arr (k := 2) (n := n.toNatClampNeg) (by omega) (by omega) (mK_nw0 _ _ _) S.1.2.1 ?_), S.2⟩
  rw [e1, elJ, mJ_nw0]
  rfl
theorem s_newP (C : Cx G q p R s m args meth c) (S : Sd G q M H locs ls lv) {n : Int32} {i k : Nat} (hk : k = 3 ∨ k = 4) (hf : ncl (ow q) i = some (aoC k)) (h0 : 0 ≤ n) (h1 : n ≤ 100000) (hcells : cells + 1 ≤ R.cells) (hslots : slots + n.toNatClampNeg ≤ R.slots) (hd : decode (mB q) pc = .ok (.anewarray i, 3))
    (kk : ∀ H1 : Heap, Sd G q (nw M (k, n.toNatClampNeg) n.toNatClampNeg) H1 locs ls lv → W p l e R s m args below meth c H1 locs (cells + 1) (slots + n.toNatClampNeg) Q (F0 m (pc + 3) ls (.ref (mS M) :: rest))) : W p l e R s m args below meth c H locs cells slots Q (F0 m pc ls (.int n :: rest)) := by
  obtain ⟨hx, hb, -, hown, hts, hK, -⟩ := C
  have hc := le_clamp h1
  have hAO : va_AO (CN (aoC k)) s := hk.elim (fun z => by rw [z]; exact hK.2.2.2.2.1) (fun z => by rw [z]; exact hK.2.2.2.2.2)
  refine W.anew hx hb hown (hts _ (ncl_spec hf)) (va_AO.use hAO) rfl hd rfl (Int32.not_lt.mpr h0) (by omega) hcells hslots fun cA kA comp f1 f2 f3 f4 => ?_
  have hRA := (hK.2.1 k (by omega) (by omega)).2
  have hnm : arTy k = .object (CN (aoC k)) := by rcases hk with rfl | rfl <;> rfl
  rw [hnm] at hRA
  obtain ⟨kA', comp', k1, k2, k3, k4⟩ := hRA
  have hcA : cA = gR G k := Option.some.inj (f1.symm.trans k4)
  subst hcA
  rw [S.1.1]
  refine kk _ ⟨S.1.push (by rw [Array.size_push, S.1.1]) (fun b hb => by rw [Array.getElem?_push, if_neg (by rw [S.1.1]; omega)]) (wAt_arr (k := k) (n := n.toNatClampNeg) (by omega) (by omega) (mK_nw0 _ _ _) S.1.2.1 ?_), S.2⟩
  rw [← S.1.1, Array.getElem?_push_size, arrV_new, S.1.1, elP _ _ _ hk, mP_nw0]
  rfl
theorem s_cpy (C : Cx G q p R s m args meth c) (S : Sd G q M H locs ls lv) (hls : ls.size = mL q) {i a a0 k : Nat} {sp dp0 n : Int32} (hk : k = 1 ∨ k = 2) (hka : (mK M a).1 = k) (hkb : (mK M a0).1 = k) (hf : isCpy (ow q) i = true)
    (h1 : ¬ sp < 0) (h2 : ¬ dp0 < 0) (h3 : ¬ n < 0) (h4 : sp.toNatClampNeg + n.toNatClampNeg ≤ (mK M a0).2) (h5 : dp0.toNatClampNeg + n.toNatClampNeg ≤ (mK M a).2)
    (hr : catS rest ≤ 8) (hdp : 1 ≤ dp q) (hd : decode (mB q) pc = .ok (.invokestatic i, 3))
    (kk : ∀ (H1 : Heap) (locs1 : List Loc), gB G ≤ a → (∀ x ∈ locs1, gB G ≤ x.base) → H1.size = H.size → (∀ b, b ≠ a → H1[b]? = H[b]?) → H1[a]? = some (arrV (gR G k) (mK M a).2 (fun j => if dp0.toNatClampNeg ≤ j ∧ j < dp0.toNatClampNeg + n.toNatClampNeg then elV M a0 k (sp.toNatClampNeg + (j - dp0.toNatClampNeg)) else elV M a k j)) → W p l e R s m args below meth c H1 locs1 cells slots Q (F0 m (pc + 3) ls rest)) : W p l e R s m args below meth c H locs cells slots Q (F0 m pc ls (.int n :: .int dp0 :: .ref a :: .int sp :: .ref a0 :: rest)) := by
  obtain ⟨hx, hb, hml, hown, hts, hK, -, hfr, hlo⟩ := C
  have hkr : 1 ≤ k ∧ k ≤ 4 := by omega
  obtain ⟨hB, hc1⟩ := (S.1.2.2.2 a).2.1 k hka hkr.1 hkr.2
  obtain ⟨-, hc0⟩ := (S.1.2.2.2 a0).2.1 k hkb hkr.1 hkr.2
  obtain ⟨-, k0, hk0, cm0, hkk0⟩ := (hK.2.1 k hkr.1 hkr.2).1 0 (fun _ => .null)
  have hc := cpyB
  simp only [Bool.and_eq_true] at hc
  have hfit : ∀ j, fits (arTy k) (elV M a0 k j) = true := fun j => by rcases hk with rfl | rfl <;> rfl
  have hrk : refKind (arTy k) = false := by rcases hk with rfl | rfl <;> rfl
  intro T hT X
  obtain ⟨vm', X', step⟩ := X.arraycopy hx hown (hts _ (cpy_spec hf)) (hts _ (hasW_in hc.2)) (hts _ (hasW_in hc.1.2)) (hts _ (hasW_in hc.1.1)) (src := a0) (dst := a) (cs := arrV (gR G k) (mK M a0).2 (elV M a0 k)) (cd := arrV (gR G k) (mK M a).2 (elV M a k)) (srcPos := sp) (destPos := dp0) (n := n) (by rw [hT]; exact hc0) (by rw [hT]; exact hc1)
    (fun _ h => by cases h) (fun _ h => by cases h) (fun h => by cases h) (fun h => by cases h) hk0 hk0 hkk0 hkk0 (by simp [hrk]) h1 h2 h3
    (by rw [nn_clamp h1, nn_clamp h3, arrV_size]; omega) (by rw [nn_clamp h2, nn_clamp h3, arrV_size]; omega)
    (fun vm₁ _ i hi => by
      have e : (arrV (gR G k) (mK M a0).2 (elV M a0 k)).slots.getD (sp.toNatClampNeg + i) .null = elV M a0 k (sp.toNatClampNeg + i) := by
        rw [Array.getD_eq_getD_getElem?, arrV_read _ _ (by omega)]
        rfl
      refine ⟨by rw [e]; exact hfit _, ?_⟩
      rw [e]
      rcases hk with rfl | rfl <;> exact trivial)
    (g := F0 m pc ls (.int n :: .int dp0 :: .ref a :: .int sp :: .ref a0 :: rest)) rfl (by rw [hml]; exact hls) (rest := rest) rfl (by rw [hb]; exact hd) (by omega) (by
      have e0 : nativeFrameWords "java/lang/System" "arraycopy" 5 = 7 := by decide +kernel
      rw [e0]
      show 2 * 0 + catS rest + (7 + 11) ≤ _
      omega)
  have e1 : copied (arrV (gR G k) (mK M a0).2 (elV M a0 k)) (arrV (gR G k) (mK M a).2 (elV M a k)) sp dp0 n = arrV (gR G k) (mK M a).2 (va_cpy (elV M a0 k) (elV M a k) sp.toNatClampNeg dp0.toNatClampNeg n.toNatClampNeg) := va_copied (fun z : Value => z) (gR G k) (gR G k) (elV M a0 k) (elV M a k) h4
  rw [e1] at X' step
  have hl : a < H.size := (Array.getElem?_eq_some_iff.mp hc1).1
  obtain ⟨t, a1, b1⟩ := kk (H.setIfInBounds a (arrV (gR G k) (mK M a).2 (va_cpy (elV M a0 k) (elV M a k) sp.toNatClampNeg dp0.toNatClampNeg n.toNatClampNeg))) _ hB (fun x hx' => by
      rcases List.mem_append.mp hx' with h | h
      · exact S.2.1 x h
      · obtain ⟨z, -, hz⟩ := List.mem_map.mp h
        rw [← hz]; exact hB) (by simp) (fun b hb => by simp [Array.getElem?_setIfInBounds, Ne.symm hb]) (by simp [Array.getElem?_setIfInBounds, hl]; rfl) _ (by rw [← hT]; rfl) X'
  exact ⟨t, step t a1, b1⟩
end CL
