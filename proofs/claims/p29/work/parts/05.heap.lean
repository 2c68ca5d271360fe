/-! fields, rows, new cells: the machine's instruction over the small machine's memory -/
theorem fld_spec {own i ci k : Nat} (h : fld own i = some (ci, k)) : Cond.fieldLink (CN own) i (TT ci k).1 (TT ci k).2.1 (TT ci k).2.2.1 ∈ lw_gd ∧ k < NN ci ∧ ci < nCl := by
  unfold fld at h
  cases hf : fldT.find? (fun e => e.1 == own && e.2.1 == i) with
  | none => rw [hf] at h; cases h
  | some e =>
    rw [hf] at h
    cases h
    have h1 := List.find?_some hf
    have h2 := List.all_eq_true.mp fldA e (List.mem_of_find?_eq_some hf)
    simp only [Bool.and_eq_true, beq_iff_eq] at h1
    simp only [fldOK, Bool.and_eq_true] at h2
    obtain ⟨⟨h3, h4⟩, h5⟩ := h2
    obtain ⟨rfl, rfl⟩ := h1
    exact ⟨hasW_in h3, Nat.le_of_ble_eq_true h4, Nat.le_of_ble_eq_true h5⟩
theorem lay_in {ci : Nat} (h : ci < nCl) : ∀ w ∈ u_ws (CN ci) (TT ci) (NN ci), w ∈ lw_gd := by
  intro w hw
  obtain ⟨k, hk, rfl⟩ := List.mem_map.mp hw
  exact hasW_in (List.all_eq_true.mp (List.all_eq_true.mp layA ci (List.mem_range.mpr h)) k hk)
theorem ty_ok {ci k : Nat} (h : ci < nCl) (hk : k < NN ci) : parseFieldDescriptor (TT ci k).2.2.1 = some (tT ci k) ∧ (TT ci k).1 = CN ci ∧ defaultValue (tT ci k) = (match fT ci k with | 0 => .int 0 | 1 => .long 0 | 2 => .null | _ => .int 0) := by
  have h2 := List.all_eq_true.mp (List.all_eq_true.mp tyA ci (List.mem_range.mpr h)) k (List.mem_range.mpr hk)
  simp only [Bool.and_eq_true, decide_eq_true_eq, beq_iff_eq] at h2
  exact ⟨h2.1.1, h2.1.2, h2.2⟩
theorem nm_ok {ci : Nat} (h : ci < nCl) : ∀ a, a < NN ci → ∀ b, b < NN ci → a ≠ b → (TT ci a).2.1 ≠ (TT ci b).2.1 := by
  intro a ha b hb hne
  have h2 := List.all_eq_true.mp (List.all_eq_true.mp (List.all_eq_true.mp nmA ci (List.mem_range.mpr h)) a (List.mem_range.mpr ha)) b (List.mem_range.mpr hb)
  simp only [Bool.or_eq_true, beq_iff_eq, bne_iff_ne] at h2
  exact h2.resolve_left hne
theorem fk_ok {ci k : Nat} (h : ci < nCl) (hk : k < NN ci) : fKOK (tT ci k) (fT ci k) = true := List.all_eq_true.mp (List.all_eq_true.mp fkA ci (List.mem_range.mpr h)) k (List.mem_range.mpr hk)
theorem put_i {ci k : Nat} {x : Int32} (h : ci < nCl) (hk : k < NN ci) (hf : fT ci k = 0 ∨ (fT ci k = 3 ∧ (x = 0 ∨ x = 1))) : narrow (tT ci k) (.int x) = .int x ∧ fits (tT ci k) (.int x) = true := by
  have h2 := fk_ok h hk
  rcases hf with hf | ⟨hf, hx⟩
  · rw [hf] at h2
    cases ht : tT ci k <;> rw [ht] at h2 <;> first | exact ⟨rfl, rfl⟩ | (simp [fKOK] at h2)
  · rw [hf] at h2
    cases ht : tT ci k <;> rw [ht] at h2 <;> first | (rcases hx with rfl | rfl <;> exact ⟨by decide, by decide⟩) | (simp [fKOK] at h2)
theorem put_l {ci k : Nat} {x : Int64} (h : ci < nCl) (hk : k < NN ci) (hf : fT ci k = 1) : narrow (tT ci k) (.long x) = .long x ∧ fits (tT ci k) (.long x) = true := by
  have h2 := fk_ok h hk
  rw [hf] at h2
  cases ht : tT ci k <;> rw [ht] at h2 <;> first | exact ⟨rfl, rfl⟩ | (simp [fKOK] at h2)
theorem put_r {ci k : Nat} {x : Nat} (h : ci < nCl) (hk : k < NN ci) (hf : fT ci k = 2) : narrow (tT ci k) (.ref x) = .ref x ∧ fits (tT ci k) (.ref x) = true := by
  have h2 := fk_ok h hk
  rw [hf] at h2
  cases ht : tT ci k <;> rw [ht] at h2 <;> first | exact ⟨rfl, rfl⟩ | (simp [fKOK] at h2)
theorem ini_nm {q : Nat} (h : isI q = true) (hq : q < 88) : (yN q).name = "<init>" ∧ mRt q = none := by
  have h2 := List.all_eq_true.mp iniA q (List.mem_range.mpr hq)
  rw [h] at h2
  simp only [Bool.not_true, Bool.false_or, Bool.and_eq_true, beq_iff_eq] at h2
  exact h2
theorem elI (M : SM) (a : Nat) : elV M a 1 = fun j => .int (mI M a j) := rfl
theorem elJ (M : SM) (a : Nat) : elV M a 2 = fun j => .long (mJ M a j) := rfl
theorem elP (M : SM) (a k : Nat) (hk : k = 3 ∨ k = 4) : elV M a k = fun j => va_rf (mP M a j) := by rcases hk with rfl | rfl <;> rfl
section HP
variable {p : Program} {l : Launch} {e : Env} {R : Room} {s : State} {m : MethodId} {args : Array Value} {below : List Frame} {meth : Method} {c : Code} {H : Heap} {locs : List Loc} {cells slots : Nat} {Q : State → Prop}
variable {G : GT} {q : Nat} {M : SM} {pc : Nat} {ls : Array Slot} {lv : List (Option Value)} {rest : List Value}
theorem s_get (C : Cx G q p R s m args meth c) (S : Sd G q M H locs ls lv) {i ci k a : Nat} (hf : fld (ow q) i = some (ci, k)) (hk : mK M a = (10 + ci, 0)) (hd : decode (mB q) pc = .ok (.getfield i, 3))
    (kk : W p l e R s m args below meth c H locs cells slots Q (F0 m (pc + 3) ls (fv M a ci k :: rest))) : W p l e R s m args below meth c H locs cells slots Q (F0 m pc ls (.ref a :: rest)) := by
  obtain ⟨hx, hb, -, hown, hts, hK, -⟩ := C
  obtain ⟨h1, h2, h3⟩ := fld_spec hf
  obtain ⟨-, cell, q1, q2, q3, q4⟩ := (S.1.2.2.2 a).2.2 ci h3 (by rw [hk])
  obtain ⟨hS, hfc, kC, hkC, hkind⟩ := hK.1.1 ci _ (cls_at ci h3)
  obtain ⟨cf, kf, fi, f, hi, hsl⟩ := hS k h2
  exact W.getf hx hb hown (hts _ h1) hi (u_facts hfc hkC (u_lays hts (lay_in h3) h2) hi).1 q1 (by rw [q3]; exact fun h => by cases h) (v := fv M a ci k) (by rw [hsl]; exact q4 k h2) rfl rfl hd kk
theorem s_put (C : Cx G q p R s m args meth c) (S : Sd G q M H locs ls lv) {i ci k a : Nat} {v : Value} (hq : q < 88) (hf : fld (ow q) i = some (ci, k)) (hk : mK M a = (10 + ci, 0)) (hfin : finOK ci k q = true) (hv : narrow (tT ci k) v = v ∧ fits (tT ci k) v = true) (hd : decode (mB q) pc = .ok (.putfield i, 3))
    (kk : ∀ (H1 : Heap) (j : Nat), gB G ≤ a → H1.size = H.size → (∀ b, b ≠ a → H1[b]? = H[b]?) → t_OB a (G.1.1 ci) (NN ci) (G.1.2 ci) H1 (updV (fv M a ci) k v) → W p l e R s m args below meth c H1 (locs ++ [⟨a, j⟩]) cells slots Q (F0 m (pc + 3) ls rest)) : W p l e R s m args below meth c H locs cells slots Q (F0 m pc ls (v :: .ref a :: rest)) := by
  obtain ⟨hx, hb, -, hown, hts, hK, hin, -⟩ := C
  obtain ⟨h1, h2, h3⟩ := fld_spec hf
  obtain ⟨hB, cell, q1, q2, q3, q4⟩ := (S.1.2.2.2 a).2.2 ci h3 (by rw [hk])
  have hKn := hK.1.1 ci _ (cls_at ci h3)
  have hap := va_apart (own := CN (ow q)) hts (lay_in h3) (tT ci) (fun k hk => (ty_ok h3 hk).1) (nm_ok h3) hK.1 (cls_at ci h3)
  obtain ⟨hS, hfc, kC, hkC, hkind⟩ := hKn
  obtain ⟨cf, kf, fi, f, hi, hsl⟩ := hS k h2
  have hl := u_lays hts (lay_in h3) h2
  have hst := (u_facts hfc hkC hl hi).1
  have hlay := hts _ (lay_in h3 _ (u_in_lay h2))
  unfold u_lay at hlay
  by_cases hfn : (TT ci k).2.2.2 = true
  · rw [if_pos hfn] at hlay
    unfold finOK at hfin
    rw [hfn] at hfin
    simp only [Bool.not_true, Bool.false_or, Bool.and_eq_true, beq_iff_eq] at hfin
    have hcf : m.cls = cf := by
      obtain ⟨_, _, c', _, _, _, -, -, hf', -, -, -, hown2, -⟩ := Cond.laysFinal_spec hlay
      have e1 : c' = cf := by have := hi.symm.trans hf'; simp at this; exact this.1.symm
      rw [(ty_ok h3 h2).2.1, hfin.2] at hown2
      rw [← e1]; exact Option.some.inj (hown.symm.trans hown2)
    have h6 := u_fits hfc hkC hkind (Or.inr hlay) hi (ty_ok h3 h2).1 hv.1 hv.2
    refine W.putFinK hx hb hown (hts _ h1) hi hst hcf (hin hfin.1) (by rw [q2]; exact h6) q1 q3 (by rw [hsl]; exact k2_hasslot (q4 k h2)) rfl rfl hd fun H' e1 e2 e3 => ?_
    rw [hsl] at e1 ⊢
    exact kk H' _ hB e2 e3 ⟨_, e1, q2, q3, t_set q4 hap h2 v⟩
  · rw [if_neg hfn] at hlay
    have h6 := u_store hfc hkC hkind hlay hi (ty_ok h3 h2).1 hv.1 hv.2
    refine W.putK hx hb (f := f) ⟨hown, hts _ h1, ⟨_, _, _, hi⟩, hst⟩ (by rw [q2]; exact h6) q1 q3 (by rw [hsl]; exact k2_hasslot (q4 k h2)) rfl rfl hd fun H' e1 e2 e3 => ?_
    rw [hsl] at e1 ⊢
    exact kk H' _ hB e2 e3 ⟨_, e1, q2, q3, t_set q4 hap h2 v⟩
theorem fv_sI {ci k a : Nat} {x : Int32} (hf : fT ci k = 0 ∨ fT ci k = 3) : updV (fv M a ci) k (.int x) = fv (sI M a (va_up (mI M a) k x)) a ci := by
  funext j
  unfold updV fv
  by_cases hj : j = k
  · subst hj
    rw [if_pos rfl, mI_sI, if_pos rfl, va_up_self]
    rcases hf with hf | hf <;> rw [hf] <;> rfl
  · rw [if_neg hj, mI_sI, if_pos rfl, va_up_ne _ _ hj]
    rfl
theorem fv_sJ {ci k a : Nat} {x : Int64} (hf : fT ci k = 1) : updV (fv M a ci) k (.long x) = fv (sJ M a (va_up (mJ M a) k x)) a ci := by
  funext j
  unfold updV fv
  by_cases hj : j = k
  · subst hj
    rw [if_pos rfl, mJ_sJ, if_pos rfl, va_up_self, hf]
    rfl
  · rw [if_neg hj, mJ_sJ, if_pos rfl, va_up_ne _ _ hj]
    rfl
theorem fv_sP {ci k a b : Nat} (hf : fT ci k = 2) : updV (fv M a ci) k (.ref b) = fv (sP M a (va_up (mP M a) k (some b))) a ci := by
  funext j
  unfold updV fv
  by_cases hj : j = k
  · subst hj
    rw [if_pos rfl, mP_sP, if_pos rfl, va_up_self, hf]
    rfl
  · rw [if_neg hj, mP_sP, if_pos rfl, va_up_ne _ _ hj]
    rfl
/-- an object's cell, written -/
theorem wAt_obj {M' : SM} {a ci : Nat} {H' : Heap} (h : ci < nCl) (hk : mK M' a = (10 + ci, 0)) (hB : gB G ≤ a) (ho : t_OB a (G.1.1 ci) (NN ci) (G.1.2 ci) H' (fv M' a ci)) : wAt G M' a H' := by
  refine ⟨fun h5 => ?_, fun k h1 h2 h3 => ?_, fun ci' h1 h2 => ?_⟩
  · rw [hk] at h5; simp at h5; omega
  · rw [hk] at h1; simp at h1; omega
  · rw [hk] at h2
    have : ci' = ci := by simp at h2; omega
    subst this
    exact ⟨hB, ho⟩
theorem wAt_arr {M' : SM} {a k n : Nat} {H' : Heap} (hk1 : 1 ≤ k) (hk4 : k ≤ 4) (hk : mK M' a = (k, n)) (hB : gB G ≤ a) (ho : H'[a]? = some (arrV (gR G k) n (elV M' a k))) : wAt G M' a H' := by
  refine ⟨fun h5 => ?_, fun k' h1 h2 h3 => ?_, fun ci' h1 h2 => ?_⟩
  · rw [hk] at h5; simp at h5; omega
  · rw [hk] at h1
    have : k' = k := by simp at h1; omega
    subst this
    exact ⟨hB, by rw [hk]; exact ho⟩
  · rw [hk] at h2; simp at h2; omega
theorem s_iald (C : Cx G q p R s m args meth c) (S : Sd G q M H locs ls lv) {a : Nat} {i : Int32} (hk : (mK M a).1 = 1 ∨ (mK M a).1 = 5) (hi : inR i (mK M a).2) (hd : decode (mB q) pc = .ok (.iaload, 1))
    (kk : W p l e R s m args below meth c H locs cells slots Q (F0 m (pc + 1) ls (.int (mI M a i.toNatClampNeg) :: rest))) : W p l e R s m args below meth c H locs cells slots Q (F0 m pc ls (.int i :: .ref a :: rest)) := by
  obtain ⟨hx, hb, -, hown, hts, hK, -⟩ := C
  rcases hk with hk | hk
  · obtain ⟨-, h1⟩ := (S.1.2.2.2 a).2.1 1 hk (by omega) (by omega)
    have hA := (hK.2.1 1 (by omega) (by omega)).1
    exact W.iald (v := .int (mI M a i.toNatClampNeg)) hx hb h1 (hA _ _) (fun q => by cases q) (by rw [arrV_size]; exact inR_vp hi) (by rw [arrV_read _ _ hi.2]; rfl) rfl rfl hd kk
  · obtain ⟨h1, h2, h3, h4⟩ := (S.1.2.2.2 a).1 hk
    obtain ⟨scr, g1, g2, g3, g4, g5⟩ := hK.2.2.1
    refine W.iald (v := .int (mI M a i.toNatClampNeg)) hx hb (by rw [h4, h1]; exact g1) g2 g3 (by rw [g4, ← h2]; exact inR_vp hi) (by rw [h3]; exact g5 _ (by rw [← h2]; exact hi.2)) rfl rfl hd kk
theorem s_lald (C : Cx G q p R s m args meth c) (S : Sd G q M H locs ls lv) {a : Nat} {i : Int32} (hk : (mK M a).1 = 2) (hi : inR i (mK M a).2) (hd : decode (mB q) pc = .ok (.laload, 1))
    (kk : W p l e R s m args below meth c H locs cells slots Q (F0 m (pc + 1) ls (.long (mJ M a i.toNatClampNeg) :: rest))) : W p l e R s m args below meth c H locs cells slots Q (F0 m pc ls (.int i :: .ref a :: rest)) := by
  obtain ⟨hx, hb, -, hown, hts, hK, -⟩ := C
  obtain ⟨-, h1⟩ := (S.1.2.2.2 a).2.1 2 hk (by omega) (by omega)
  have hA := (hK.2.1 2 (by omega) (by omega)).1
  exact W.lald (v := .long (mJ M a i.toNatClampNeg)) hx hb h1 (hA _ _) (fun q => by cases q) (by rw [arrV_size]; exact inR_vp hi) (by rw [arrV_read _ _ hi.2]; rfl) rfl rfl hd kk
theorem s_aald (C : Cx G q p R s m args meth c) (S : Sd G q M H locs ls lv) {a : Nat} {i : Int32} (hk : (mK M a).1 = 3 ∨ (mK M a).1 = 4) (hi : inR i (mK M a).2) (hd : decode (mB q) pc = .ok (.aaload, 1))
    (kk : W p l e R s m args below meth c H locs cells slots Q (F0 m (pc + 1) ls (va_rf (mP M a i.toNatClampNeg) :: rest))) : W p l e R s m args below meth c H locs cells slots Q (F0 m pc ls (.int i :: .ref a :: rest)) := by
  obtain ⟨hx, hb, -, hown, hts, hK, -⟩ := C
  rcases hk with hk | hk
  · obtain ⟨-, h1⟩ := (S.1.2.2.2 a).2.1 3 hk (by omega) (by omega)
    have hA := (hK.2.1 3 (by omega) (by omega)).1
    exact W.aald (v := va_rf (mP M a i.toNatClampNeg)) (ty := .object (AON 3)) hx hb h1 (hA _ _) rfl (fun q => by cases q) (by rw [arrV_size]; exact inR_vp hi) (by rw [arrV_read _ _ hi.2]; rfl) rfl rfl hd kk
  · obtain ⟨-, h1⟩ := (S.1.2.2.2 a).2.1 4 hk (by omega) (by omega)
    have hA := (hK.2.1 4 (by omega) (by omega)).1
    exact W.aald (v := va_rf (mP M a i.toNatClampNeg)) (ty := .object (AON 4)) hx hb h1 (hA _ _) rfl (fun q => by cases q) (by rw [arrV_size]; exact inR_vp hi) (by rw [arrV_read _ _ hi.2]; rfl) rfl rfl hd kk
theorem s_alen (C : Cx G q p R s m args meth c) (S : Sd G q M H locs ls lv) {a : Nat} (hk : (mK M a).1 = 1 ∨ (mK M a).1 = 5) (hd : decode (mB q) pc = .ok (.arraylength, 1))
    (kk : W p l e R s m args below meth c H locs cells slots Q (F0 m (pc + 1) ls (.int (Int32.ofNat (mK M a).2) :: rest))) : W p l e R s m args below meth c H locs cells slots Q (F0 m pc ls (.ref a :: rest)) := by
  obtain ⟨hx, hb, -, hown, hts, hK, -⟩ := C
  rcases hk with hk | hk
  · obtain ⟨-, h1⟩ := (S.1.2.2.2 a).2.1 1 hk (by omega) (by omega)
    have hA := (hK.2.1 1 (by omega) (by omega)).1
    exact W.alen (n := Int32.ofNat (mK M a).2) hx hb h1 (hA _ _) (by rw [arrV_size]) rfl rfl hd kk
  · obtain ⟨h1, h2, h3, h4⟩ := (S.1.2.2.2 a).1 hk
    obtain ⟨scr, g1, g2, g3, g4, g5⟩ := hK.2.2.1
    exact W.alen (n := Int32.ofNat (mK M a).2) hx hb (by rw [h4, h1]; exact g1) g2 (by rw [g4, h2]) rfl rfl hd kk
theorem s_iast (C : Cx G q p R s m args meth c) (S : Sd G q M H locs ls lv) {a : Nat} {i x : Int32} (hk : (mK M a).1 = 1) (hi : inR i (mK M a).2) (hd : decode (mB q) pc = .ok (.iastore, 1))
    (kk : ∀ (H1 : Heap) (locs1 : List Loc), Sd G q (sI M a (va_up (mI M a) i.toNatClampNeg x)) H1 locs1 ls lv → W p l e R s m args below meth c H1 locs1 cells slots Q (F0 m (pc + 1) ls rest)) : W p l e R s m args below meth c H locs cells slots Q (F0 m pc ls (.int x :: .int i :: .ref a :: rest)) := by
  obtain ⟨hx, hb, -, hown, hts, hK, -⟩ := C
  obtain ⟨hB, h1⟩ := (S.1.2.2.2 a).2.1 1 hk (by omega) (by omega)
  have hA := (hK.2.1 1 (by omega) (by omega)).1
  refine W.iast hx hb h1 (hA _ _) (fun q => by cases q) (by rw [arrV_size]; exact inR_vp hi) rfl rfl hd fun H1 e1 z o => ?_
  refine kk H1 _ (S.heap (S.1.sI z o ?_) hB)
  refine wAt_arr (k := 1) (n := (mK M a).2) (by omega) (by omega) (by rw [← hk]; rfl) hB ?_
  rw [e1, arrV_store, elI, elI, mI_sI, if_pos rfl]
  congr 2
  funext j
  unfold updV va_up
  split <;> rfl
theorem s_last (C : Cx G q p R s m args meth c) (S : Sd G q M H locs ls lv) {a : Nat} {i : Int32} {x : Int64} (hk : (mK M a).1 = 2) (hi : inR i (mK M a).2) (hd : decode (mB q) pc = .ok (.lastore, 1))
    (kk : ∀ (H1 : Heap) (locs1 : List Loc), Sd G q (sJ M a (va_up (mJ M a) i.toNatClampNeg x)) H1 locs1 ls lv → W p l e R s m args below meth c H1 locs1 cells slots Q (F0 m (pc + 1) ls rest)) : W p l e R s m args below meth c H locs cells slots Q (F0 m pc ls (.long x :: .int i :: .ref a :: rest)) := by
  obtain ⟨hx, hb, -, hown, hts, hK, -⟩ := C
  obtain ⟨hB, h1⟩ := (S.1.2.2.2 a).2.1 2 hk (by omega) (by omega)
  have hA := (hK.2.1 2 (by omega) (by omega)).1
  refine W.last hx hb h1 (hA _ _) (fun q => by cases q) (by rw [arrV_size]; exact inR_vp hi) rfl rfl hd fun H1 e1 z o => ?_
  refine kk H1 _ (S.heap (S.1.sJ z o ?_) hB)
  refine wAt_arr (k := 2) (n := (mK M a).2) (by omega) (by omega) (by rw [← hk]; rfl) hB ?_
  rw [e1, arrV_store, elJ, elJ, mJ_sJ, if_pos rfl]
  congr 2
  funext j
  unfold updV va_up
  split <;> rfl
theorem s_aast (C : Cx G q p R s m args meth c) (S : Sd G q M H locs ls lv) {a b k n : Nat} {i : Int32} (hk3 : k = 3 ∨ k = 4) (hk : mK M a = (k, n)) (hkb : mK M b = (10 + aoC k, 0)) (hi : inR i n) (hd : decode (mB q) pc = .ok (.aastore, 1))
    (kk : ∀ (H1 : Heap) (locs1 : List Loc), Sd G q (sP M a (va_up (mP M a) i.toNatClampNeg (some b))) H1 locs1 ls lv → W p l e R s m args below meth c H1 locs1 cells slots Q (F0 m (pc + 1) ls rest)) : W p l e R s m args below meth c H locs cells slots Q (F0 m pc ls (.ref b :: .int i :: .ref a :: rest)) := by
  obtain ⟨hx, hb, -, hown, hts, hK, -⟩ := C
  have hkr : 1 ≤ k ∧ k ≤ 4 := by omega
  obtain ⟨hB, h1⟩ := (S.1.2.2.2 a).2.1 k (by rw [hk]) hkr.1 hkr.2
  rw [hk] at h1
  have hA := hK.2.1 k hkr.1 hkr.2
  have hci : aoC k < nCl := by rcases hk3 with rfl | rfl <;> decide
  obtain ⟨-, cellV, g1, g2, g3, -⟩ := (S.1.2.2.2 b).2.2 (aoC k) hci (by rw [hkb])
  have hcls := (hK.1.1 (aoC k) _ (cls_at _ hci)).2
  have hnm : arTy k = .object (CN (aoC k)) := by rcases hk3 with rfl | rfl <;> rfl
  have hRA := hA.2
  rw [hnm] at hRA
  obtain ⟨kA, comp, k1, k2, k3, -⟩ := hRA
  have hcomp : comp = G.1.1 (aoC k) := Option.some.inj (k3.symm.trans hcls.1)
  subst hcomp
  have hasg := va_assign hcls
  obtain ⟨-, kC, hkC, -⟩ := hcls
  refine W.aast hx hb h1 (fun q h => by cases h) (fun h => by cases h) k1 k2 rfl hkC ⟨hi.1, by rw [arrV_size]; exact hi.2⟩ g1 (fun q h => by rw [g3] at h; cases h) (by rw [g2]; exact hkC) (by rw [g2]; exact hasg) rfl rfl hd fun H1 e1 z o => ?_
  refine kk H1 _ (S.heap (S.1.sP z o ?_) hB)
  refine wAt_arr (k := k) (n := n) hkr.1 hkr.2 (by rw [← hk]; rfl) hB ?_
  rw [e1, arrV_store, elP _ _ _ hk3, elP _ _ _ hk3, mP_sP, if_pos rfl]
  congr 2
  funext j
  unfold updV va_up
  split <;> rfl
end HP
