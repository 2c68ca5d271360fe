/-! calls, and the whole run: what the small machine answers, the machine answers -/
theorem parA : (List.range 87).all (fun q => decide ((parseMethodDescriptor (yN q).desc).map (fun d => d.parameters.length) = some (nPar q))) = true := by decide +kernel
theorem cal_spec {own i q2 kd : Nat} (h : cal own i = some (q2, kd)) : ∃ e ∈ calT, e.1 = own ∧ e.2.1 = i ∧ e.2.2.1 = q2 ∧ e.2.2.2.1 = kd := by
  unfold cal at h
  cases hf : calT.find? (fun e => e.1 == own && e.2.1 == i) with
  | none => rw [hf] at h; cases h
  | some e =>
    rw [hf] at h
    cases h
    have h1 := List.find?_some hf
    simp only [Bool.and_eq_true, beq_iff_eq] at h1
    exact ⟨e, List.mem_of_find?_eq_some hf, h1.1, h1.2, rfl, rfl⟩
theorem cal_lt {own i q2 kd : Nat} (h : cal own i = some (q2, kd)) : q2 < 87 := by
  obtain ⟨e, he, -, -, rfl, -⟩ := cal_spec h
  have := List.all_eq_true.mp calA e he
  unfold calOK at this
  rw [Bool.and_eq_true] at this
  exact Nat.le_of_ble_eq_true this.1
theorem cls_ok {q : Nat} (h : q < 87) : (yN q).cls = CN (ow q) ∧ Cond.initialized (CN (ow q)) ∈ lw_gd := by
  have := List.all_eq_true.mp clsA q (List.mem_range.mpr h)
  unfold clsOK at this
  rw [Bool.and_eq_true, beq_iff_eq] at this
  exact ⟨this.1, hasW_in this.2⟩
theorem mh_ok {q : Nat} (h : q < 87) : (yN q).cls ≠ "java/lang/invoke/MethodHandle" ∧ (yN q).cls ≠ "java/lang/invoke/VarHandle" ∧ (parseMethodDescriptor (yN q).desc).map (fun d => d.parameters.length) = some (nPar q) := by
  have h0 := List.all_eq_true.mp owA q (List.mem_range.mpr (by omega))
  rw [Bool.and_eq_true] at h0
  have h1 := List.all_eq_true.mp mhA (ow q) (List.mem_range.mpr (Nat.le_of_ble_eq_true h0.1))
  simp only [Bool.and_eq_true, bne_iff_ne] at h1
  rw [(cls_ok h).1]
  exact ⟨h1.1, h1.2, of_decide_eq_true (List.all_eq_true.mp parA q (List.mem_range.mpr h))⟩
theorem mL_le {q : Nat} (h : q < 88) : mL q ≤ 24 := by
  have h0 := List.all_eq_true.mp owA q (List.mem_range.mpr h)
  rw [Bool.and_eq_true] at h0
  exact Nat.le_of_ble_eq_true h0.2
theorem ip_s {q : Nat} (h : q < 87) (hs : stM q = true) : Cond.static (yN q) ∈ lw_gd := by
  have := List.all_eq_true.mp ipA q (List.mem_range.mpr h)
  unfold ipOK at this
  rw [if_pos hs] at this
  exact hasW_in this
theorem ip_i {q : Nat} (h : q < 87) (hs : stM q = false) : Cond.instanceMethod (yN q) ∈ lw_gd := by
  have := List.all_eq_true.mp ipA q (List.mem_range.mpr h)
  unfold ipOK at this
  rw [if_neg (by rw [hs]; decide)] at this
  exact hasW_in this
theorem sp_i {q : Nat} (h : q < 87) (hs : stM q = false) (hi : isI q = false) : Cond.selects (yN q).cls (yN q) (yN q) ∈ lw_gd := by
  have := List.all_eq_true.mp spA q (List.mem_range.mpr h)
  unfold spOK at this
  rw [hs, hi] at this
  exact hasW_in this
theorem good_ws {q : Nat} (h : q < 87) : GoodIn lw_gd (mWs q) := fun w hw => by
  rcases List.mem_cons.mp hw with rfl | hw
  · exact gd_good _ (cod_in h)
  · exact gd_good _ hw
/-- the room of a method that makes so many cells -/
def mRm (q a b : Nat) : Room := { frames := dp q, cells := a, slots := b, locals := 44 * dp q }
def mPc (G : GT) (M : SM) (as : List Value) : Array Value → State → Prop := fun a U => a = as.toArray ∧ Wld G M U.heap ∧ Kn G U
def mQc (G : GT) (M : SM) (v : Option Value) : Array Value → State → Outcome → State → Prop := fun _ _ o t => o = .returned v ∧ Wld G M t.heap
theorem mPc_blind (G : GT) (M : SM) (as : List Value) : FrameBlind (mPc G M as) := fun _ _ _ _ h => ⟨h.1, h.2.1, h.2.2.blind⟩
abbrev mMet (l : Launch) (G : GT) (q : Nat) (M : SM) (as : List Value) (v : Option Value) (M2 : SM) : Prop := Met l (yN q) (mWs q) (mRm q (mS M2 - mS M) (mU M2 - mU M)) (mPc G M as) (mQc G M2 v) (mS M2 - mS M) (mU M2 - mU M) (fun a => gB G ≤ a)
section CR
variable {p : Program} {l : Launch} {e : Env} {R : Room} {s : State} {m : MethodId} {args : Array Value} {below : List Frame} {meth : Method} {c : Code} {H : Heap} {locs : List Loc} {cells slots mc ms : Nat} {Q : State → Prop}
variable {G : GT} {q q2 : Nat} {M M2 : SM} {pc i : Nat} {ls : Array Slot} {lv : List (Option Value)} {rest st0 as : List Value} {v : Option Value}
theorem run_on {a : Array Value} (hr : va_Run p l e R s m args below meth c H locs cells slots mc ms (F0 m pc ls st0) rest (mQc G M2 v a) (fun a => gB G ≤ a)) (hL : ∀ x ∈ locs, gB G ≤ x.base)
    (kk : ∀ (H1 : Heap) (locs1 : List Loc), Wld G M2 H1 → (∀ x ∈ locs1, gB G ≤ x.base) → W p l e R s m args below meth c H1 locs1 (cells + mc) (slots + ms) Q (F0 m (pc + 3) ls (v.toList ++ rest))) : W p l e R s m args below meth c H locs cells slots Q (F0 m pc ls st0) := by
  intro T hT X
  obtain ⟨v', st₀, t, T', L, h0, X', hL', e1, e2, ⟨hv, hw⟩, st⟩ := hr T hT X
  cases hv
  obtain ⟨t2, a1, b1⟩ := kk T'.heap (locs ++ L) (by rw [e1]; exact hw) (fun x hx => (List.mem_append.mp hx).elim (hL x) (hL' x)) T' rfl X'
  exact ⟨t2, st t2 a1, b1⟩
theorem fixed (C : Cx G q p R s m args meth c) : CallFix p m c (mB q) (mL q) s args lw_gd (CN (ow q)) := ⟨C.1, C.2.1, C.2.2.1, C.2.2.2.1, C.2.2.2.2.1⟩
theorem room_ok (C : Cx G q p R s m args meth c) (h2 : q2 < 87) (hd : dp q2 < dp q) (a b : Nat) : (mRm q2 a b).frames + 1 ≤ R.frames ∧ 8 + (mL q2 + 11) + (mRm q2 a b).locals ≤ R.locals := by
  have h1 := C.2.2.2.2.2.2.2.1
  have h3 := C.2.2.2.2.2.2.2.2
  have h4 := mL_le (q := q2) (by omega)
  refine ⟨?_, ?_⟩
  · show dp q2 + 1 ≤ R.frames; omega
  · show 8 + (mL q2 + 11) + 44 * dp q2 ≤ R.locals; omega
theorem call_V (C : Cx G q p R s m args meth c) (S : Sd G q M H locs ls lv) {kd b : Nat} (hM : mMet l G q2 M (.ref b :: as) v M2) (hf : cal (ow q) i = some (q2, kd)) (hkd : kd = 0 ∨ kd = 1) (hn : as.length = nPar q2) (hr : catS rest ≤ 8) (hdp : dp q2 < dp q) (hk : mK M b = (10 + ow q2, 0))
    (hcells : cells + (mS M2 - mS M) ≤ R.cells) (hslots : slots + (mU M2 - mU M) ≤ R.slots) (hd : decode (mB q) pc = .ok (.invokevirtual i, 3)) :
    va_Run p l e R s m args below meth c H locs cells slots (mS M2 - mS M) (mU M2 - mU M) (F0 m pc ls (as.reverse ++ .ref b :: rest)) rest (mQc G M2 v (Value.ref b :: as).toArray) (fun a => gB G ≤ a) := by
  have h2 := cal_lt hf
  obtain ⟨e0, he, e1, e2, e3, e4⟩ := cal_spec hf
  have hc := List.all_eq_true.mp calA e0 he
  unfold calOK at hc
  rw [Bool.and_eq_true, e4, e3] at hc
  have hts := C.2.2.2.2.1
  have hK := C.2.2.2.2.2.1
  have hfl : stM q2 = false ∧ isI q2 = false ∧ ow q2 < nCl := by
    rcases hkd with rfl | rfl
    · simp only [Bool.and_eq_true, Bool.not_eq_true'] at hc
      exact ⟨hc.2.1.1.2, hc.2.1.2, Nat.le_of_ble_eq_true hc.2.2⟩
    · simp only [Bool.and_eq_true, Bool.not_eq_true'] at hc
      exact ⟨hc.2.1.1, hc.2.1.2, Nat.le_of_ble_eq_true hc.2.2⟩
  have hin := hts _ (ip_i h2 hfl.1)
  have hse := hts _ (sp_i h2 hfl.1 hfl.2.1)
  have hini : (Cond.initialized (yN q2).cls).before args s = true := by rw [(cls_ok h2).1]; exact hts _ (cls_ok h2).2
  have hPre : PreV s H (yN q2).cls b (mPc G M (.ref b :: as)) as := by
    refine ⟨mPc_blind _ _ _, ?_, fun U hU hW => ⟨rfl, by rw [hU]; exact S.1, hK.moved hW⟩⟩
    obtain ⟨-, cell, g1, g2, g3, -⟩ := (S.1.2.2.2 b).2.2 (ow q2) hfl.2.2 (by rw [hk])
    exact ⟨cell, g1, by rw [g3]; rfl, by rw [g2, (cls_ok h2).1]; exact (hK.1.1 (ow q2) _ (cls_at _ hfl.2.2)).2.1⟩
  have hls : ls.size = mL q := S.2.2.1.1
  rcases hkd with rfl | rfl
  · have hl : (Cond.methodLink (CN (ow q)) i (yN q2)).before args s = true := by
      simp only [Bool.and_eq_true] at hc
      have := hts _ (hasW_in hc.2.1.1.1)
      rwa [e1, e2] at this
    exact va_runV (C := (yN q2).cls) (As := as) (rest := rest) (bytes := mB q2) (maxL := mL q2) (ret := mRt q2) (n := nPar q2) (index := i) (fixed C) hM ⟨callB_of (nPar q2) hts (good_ws h2) rfl rfl rfl hini hl (mh_ok h2) (room_ok C h2 hdp _ _), hin, hse⟩ hPre rfl hn hls rfl (lv_room hr) hd ⟨hcells, hslots⟩
  · have hl : va_Nw (.methodLinkNest (CN (ow q)) i (yN q2) NH) s := by
      have := hK.2.2.2.1 e0 he (by rw [e4])
      unfold nstN at this
      rwa [e1, e2, e3] at this
    exact va_runVN (C := (yN q2).cls) (As := as) (rest := rest) (bytes := mB q2) (maxL := mL q2) (ret := mRt q2) (n := nPar q2) (index := i) (fixed C) hM ⟨va_cnB (nPar q2) hts (good_ws h2) rfl rfl rfl hl hini (mh_ok h2) (room_ok C h2 hdp _ _), hin, hse⟩ hPre rfl hn hls rfl (lv_room hr) hd ⟨hcells, hslots⟩
theorem call_S (C : Cx G q p R s m args meth c) (S : Sd G q M H locs ls lv) (hM : mMet l G q2 M as v M2) {kd : Nat} (hf : cal (ow q) i = some (q2, kd)) (hkd : kd = 2 ∨ kd = 3) (hn : as.length = nPar q2) (hr : catS rest ≤ 8) (hdp : dp q2 < dp q)
    (hcells : cells + (mS M2 - mS M) ≤ R.cells) (hslots : slots + (mU M2 - mU M) ≤ R.slots) (hd : decode (mB q) pc = .ok (.invokestatic i, 3)) :
    va_Run p l e R s m args below meth c H locs cells slots (mS M2 - mS M) (mU M2 - mU M) (F0 m pc ls (as.reverse ++ rest)) rest (mQc G M2 v as.toArray) (fun a => gB G ≤ a) := by
  have h2 := cal_lt hf
  obtain ⟨e0, he, e1, e2, e3, e4⟩ := cal_spec hf
  have hc := List.all_eq_true.mp calA e0 he
  unfold calOK at hc
  rw [Bool.and_eq_true, e4, e3] at hc
  have hts := C.2.2.2.2.1
  have hK := C.2.2.2.2.2.1
  have hfl : stM q2 = true := by
    rcases hkd with rfl | rfl
    · simp only [Bool.and_eq_true] at hc
      exact hc.2.2
    · exact hc.2
  have hst := hts _ (ip_s h2 hfl)
  have hini : (Cond.initialized (yN q2).cls).before args s = true := by rw [(cls_ok h2).1]; exact hts _ (cls_ok h2).2
  have hPre : PreS s H (mPc G M as) as := ⟨mPc_blind _ _ _, fun U hU hW => ⟨rfl, by rw [hU]; exact S.1, hK.moved hW⟩⟩
  have hls : ls.size = mL q := S.2.2.1.1
  rcases hkd with rfl | rfl
  · have hl : (Cond.methodLink (CN (ow q)) i (yN q2)).before args s = true := by
      simp only [Bool.and_eq_true] at hc
      have := hts _ (hasW_in hc.2.1)
      rwa [e1, e2] at this
    exact va_runS (As := as) (rest := rest) (bytes := mB q2) (maxL := mL q2) (ret := mRt q2) (n := nPar q2) (index := i) (fixed C) hM ⟨callB_of (nPar q2) hts (good_ws h2) rfl rfl rfl hini hl (mh_ok h2) (room_ok C h2 hdp _ _), hst⟩ hPre rfl hn hls rfl (lv_room hr) hd ⟨hcells, hslots⟩
  · have hl : va_Nw (.methodLinkNest (CN (ow q)) i (yN q2) NH) s := by
      have := hK.2.2.2.1 e0 he (by rw [e4])
      unfold nstN at this
      rwa [e1, e2, e3] at this
    exact va_runSN (As := as) (rest := rest) (bytes := mB q2) (maxL := mL q2) (ret := mRt q2) (n := nPar q2) (index := i) (fixed C) hM ⟨va_cnB (nPar q2) hts (good_ws h2) rfl rfl rfl hl hini (mh_ok h2) (room_ok C h2 hdp _ _), hst, trivial⟩ hPre rfl hn hls rfl (lv_room hr) hd ⟨hcells, hslots⟩
theorem call_I (C : Cx G q p R s m args meth c) (S : Sd G q M H locs ls lv) {kd b : Nat} (hM : mMet l G q2 M (.ref b :: as) v M2) (hf : cal (ow q) i = some (q2, kd)) (hkd : kd = 4 ∨ kd = 5) (hn : as.length = nPar q2) (hr : catS rest ≤ 8) (hdp : dp q2 < dp q)
    (hcells : cells + (mS M2 - mS M) ≤ R.cells) (hslots : slots + (mU M2 - mU M) ≤ R.slots) (hd : decode (mB q) pc = .ok (.invokespecial i, 3)) :
    va_Run p l e R s m args below meth c H locs cells slots (mS M2 - mS M) (mU M2 - mU M) (F0 m pc ls (as.reverse ++ .ref b :: rest)) rest (mQc G M2 v (Value.ref b :: as).toArray) (fun a => gB G ≤ a) := by
  have h2 := cal_lt hf
  obtain ⟨e0, he, e1, e2, e3, e4⟩ := cal_spec hf
  have hc := List.all_eq_true.mp calA e0 he
  unfold calOK at hc
  rw [Bool.and_eq_true, e4, e3] at hc
  have hts := C.2.2.2.2.1
  have hK := C.2.2.2.2.2.1
  have hfl : stM q2 = false ∧ isI q2 = true := by
    rcases hkd with rfl | rfl
    · simp only [Bool.and_eq_true, Bool.not_eq_true'] at hc
      exact ⟨hc.2.1.2, hc.2.2⟩
    · simp only [Bool.and_eq_true, Bool.not_eq_true'] at hc
      exact ⟨hc.2.1, hc.2.2⟩
  have hin := hts _ (ip_i h2 hfl.1)
  obtain ⟨hy1, hret⟩ := ini_nm hfl.2 (by omega)
  have hini : (Cond.initialized (yN q2).cls).before args s = true := by rw [(cls_ok h2).1]; exact hts _ (cls_ok h2).2
  have hPre : PreS s H (mPc G M (.ref b :: as)) (.ref b :: as) := ⟨mPc_blind _ _ _, fun U hU hW => ⟨rfl, by rw [hU]; exact S.1, hK.moved hW⟩⟩
  have hls : ls.size = mL q := S.2.2.1.1
  have hws : mWs q2 = Cond.code (yN q2) (mB q2) (mL q2) none :: lw_gd := by unfold mWs codW; rw [hret]
  rcases hkd with rfl | rfl
  · have hl : (Cond.methodLink (CN (ow q)) i (yN q2)).before args s = true := by
      simp only [Bool.and_eq_true] at hc
      have := hts _ (hasW_in hc.2.1.1)
      rwa [e1, e2] at this
    exact va_runI (As := as) (rest := rest) (bytes := mB q2) (maxL := mL q2) (n := nPar q2) (index := i) (fixed C) hM ⟨callB_of (nPar q2) hts (good_ws h2) hws rfl rfl hini hl (mh_ok h2) (room_ok C h2 hdp _ _), hy1, hin⟩ hPre rfl hn hls rfl (lv_room hr) hd ⟨hcells, hslots⟩
  · have hl : va_Nw (.methodLinkNest (CN (ow q)) i (yN q2) NH) s := by
      have := hK.2.2.2.1 e0 he (by rw [e4])
      unfold nstN at this
      rwa [e1, e2, e3] at this
    exact va_runIN (As := as) (rest := rest) (bytes := mB q2) (maxL := mL q2) (n := nPar q2) (index := i) (fixed C) hM ⟨va_cnB (nPar q2) hts (good_ws h2) hws rfl rfl hl hini (mh_ok h2) (room_ok C h2 hdp _ _), hy1, hin⟩ hPre rfl hn hls rfl (lv_room hr) hd ⟨hcells, hslots⟩
end CR
