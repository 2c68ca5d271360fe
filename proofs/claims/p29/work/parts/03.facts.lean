/-! what the tables say, looked up once -/
def lw_gd : List Cond := lw_tbl.filter goodWord
def hasW (i : Nat) (w : Cond) : Bool := decide (lw_tbl[i]? = some w) && goodWord w
theorem hasW_in {i : Nat} {w : Cond} (h : hasW i w = true) : w ∈ lw_gd := by
  unfold hasW at h
  rw [Bool.and_eq_true, decide_eq_true_eq] at h
  exact List.mem_filter.mpr ⟨List.mem_of_getElem? h.1, h.2⟩
theorem gd_good : GoodIn lw_gd lw_gd := fun w hw => ⟨hw, good_of_word (List.mem_filter.mp hw).2⟩
def codW (q : Nat) : Cond := .code (yN q) (mB q) (mL q) (mRt q)
def mWs (q : Nat) : List Cond := codW q :: lw_gd
def NH : String := "DependentReplay"
set_option maxRecDepth 100000 in
theorem cd_0 : lw_tbl[wpM 0]? = some (codW 0) := rfl
set_option maxRecDepth 100000 in
theorem cd_1 : lw_tbl[wpM 1]? = some (codW 1) := rfl
set_option maxRecDepth 100000 in
theorem cd_2 : lw_tbl[wpM 2]? = some (codW 2) := rfl
set_option maxRecDepth 100000 in
theorem cd_3 : lw_tbl[wpM 3]? = some (codW 3) := rfl
set_option maxRecDepth 100000 in
theorem cd_4 : lw_tbl[wpM 4]? = some (codW 4) := rfl
set_option maxRecDepth 100000 in
theorem cd_5 : lw_tbl[wpM 5]? = some (codW 5) := rfl
set_option maxRecDepth 100000 in
theorem cd_6 : lw_tbl[wpM 6]? = some (codW 6) := rfl
set_option maxRecDepth 100000 in
theorem cd_7 : lw_tbl[wpM 7]? = some (codW 7) := rfl
set_option maxRecDepth 100000 in
theorem cd_8 : lw_tbl[wpM 8]? = some (codW 8) := rfl
set_option maxRecDepth 100000 in
theorem cd_9 : lw_tbl[wpM 9]? = some (codW 9) := rfl
set_option maxRecDepth 100000 in
theorem cd_10 : lw_tbl[wpM 10]? = some (codW 10) := rfl
set_option maxRecDepth 100000 in
theorem cd_11 : lw_tbl[wpM 11]? = some (codW 11) := rfl
set_option maxRecDepth 100000 in
theorem cd_12 : lw_tbl[wpM 12]? = some (codW 12) := rfl
set_option maxRecDepth 100000 in
theorem cd_13 : lw_tbl[wpM 13]? = some (codW 13) := rfl
set_option maxRecDepth 100000 in
theorem cd_14 : lw_tbl[wpM 14]? = some (codW 14) := rfl
set_option maxRecDepth 100000 in
theorem cd_15 : lw_tbl[wpM 15]? = some (codW 15) := rfl
set_option maxRecDepth 100000 in
theorem cd_16 : lw_tbl[wpM 16]? = some (codW 16) := rfl
set_option maxRecDepth 100000 in
theorem cd_17 : lw_tbl[wpM 17]? = some (codW 17) := rfl
set_option maxRecDepth 100000 in
theorem cd_18 : lw_tbl[wpM 18]? = some (codW 18) := rfl
set_option maxRecDepth 100000 in
theorem cd_19 : lw_tbl[wpM 19]? = some (codW 19) := rfl
set_option maxRecDepth 100000 in
theorem cd_20 : lw_tbl[wpM 20]? = some (codW 20) := rfl
set_option maxRecDepth 100000 in
theorem cd_21 : lw_tbl[wpM 21]? = some (codW 21) := rfl
set_option maxRecDepth 100000 in
theorem cd_22 : lw_tbl[wpM 22]? = some (codW 22) := rfl
set_option maxRecDepth 100000 in
theorem cd_23 : lw_tbl[wpM 23]? = some (codW 23) := rfl
set_option maxRecDepth 100000 in
theorem cd_24 : lw_tbl[wpM 24]? = some (codW 24) := rfl
set_option maxRecDepth 100000 in
theorem cd_25 : lw_tbl[wpM 25]? = some (codW 25) := rfl
set_option maxRecDepth 100000 in
theorem cd_26 : lw_tbl[wpM 26]? = some (codW 26) := rfl
set_option maxRecDepth 100000 in
theorem cd_27 : lw_tbl[wpM 27]? = some (codW 27) := rfl
set_option maxRecDepth 100000 in
theorem cd_28 : lw_tbl[wpM 28]? = some (codW 28) := rfl
set_option maxRecDepth 100000 in
theorem cd_29 : lw_tbl[wpM 29]? = some (codW 29) := rfl
set_option maxRecDepth 100000 in
theorem cd_30 : lw_tbl[wpM 30]? = some (codW 30) := rfl
set_option maxRecDepth 100000 in
theorem cd_31 : lw_tbl[wpM 31]? = some (codW 31) := rfl
set_option maxRecDepth 100000 in
theorem cd_32 : lw_tbl[wpM 32]? = some (codW 32) := rfl
set_option maxRecDepth 100000 in
theorem cd_33 : lw_tbl[wpM 33]? = some (codW 33) := rfl
set_option maxRecDepth 100000 in
theorem cd_34 : lw_tbl[wpM 34]? = some (codW 34) := rfl
set_option maxRecDepth 100000 in
theorem cd_35 : lw_tbl[wpM 35]? = some (codW 35) := rfl
set_option maxRecDepth 100000 in
theorem cd_36 : lw_tbl[wpM 36]? = some (codW 36) := rfl
set_option maxRecDepth 100000 in
theorem cd_37 : lw_tbl[wpM 37]? = some (codW 37) := rfl
set_option maxRecDepth 100000 in
theorem cd_38 : lw_tbl[wpM 38]? = some (codW 38) := rfl
set_option maxRecDepth 100000 in
theorem cd_39 : lw_tbl[wpM 39]? = some (codW 39) := rfl
set_option maxRecDepth 100000 in
theorem cd_40 : lw_tbl[wpM 40]? = some (codW 40) := rfl
set_option maxRecDepth 100000 in
theorem cd_41 : lw_tbl[wpM 41]? = some (codW 41) := rfl
set_option maxRecDepth 100000 in
theorem cd_42 : lw_tbl[wpM 42]? = some (codW 42) := rfl
set_option maxRecDepth 100000 in
theorem cd_43 : lw_tbl[wpM 43]? = some (codW 43) := rfl
set_option maxRecDepth 100000 in
theorem cd_44 : lw_tbl[wpM 44]? = some (codW 44) := rfl
set_option maxRecDepth 100000 in
theorem cd_45 : lw_tbl[wpM 45]? = some (codW 45) := rfl
set_option maxRecDepth 100000 in
theorem cd_46 : lw_tbl[wpM 46]? = some (codW 46) := rfl
set_option maxRecDepth 100000 in
theorem cd_47 : lw_tbl[wpM 47]? = some (codW 47) := rfl
set_option maxRecDepth 100000 in
theorem cd_48 : lw_tbl[wpM 48]? = some (codW 48) := rfl
set_option maxRecDepth 100000 in
theorem cd_49 : lw_tbl[wpM 49]? = some (codW 49) := rfl
set_option maxRecDepth 100000 in
theorem cd_50 : lw_tbl[wpM 50]? = some (codW 50) := rfl
set_option maxRecDepth 100000 in
theorem cd_51 : lw_tbl[wpM 51]? = some (codW 51) := rfl
set_option maxRecDepth 100000 in
theorem cd_52 : lw_tbl[wpM 52]? = some (codW 52) := rfl
set_option maxRecDepth 100000 in
theorem cd_53 : lw_tbl[wpM 53]? = some (codW 53) := rfl
set_option maxRecDepth 100000 in
theorem cd_54 : lw_tbl[wpM 54]? = some (codW 54) := rfl
set_option maxRecDepth 100000 in
theorem cd_55 : lw_tbl[wpM 55]? = some (codW 55) := rfl
set_option maxRecDepth 100000 in
theorem cd_56 : lw_tbl[wpM 56]? = some (codW 56) := rfl
set_option maxRecDepth 100000 in
theorem cd_57 : lw_tbl[wpM 57]? = some (codW 57) := rfl
set_option maxRecDepth 100000 in
theorem cd_58 : lw_tbl[wpM 58]? = some (codW 58) := rfl
set_option maxRecDepth 100000 in
theorem cd_59 : lw_tbl[wpM 59]? = some (codW 59) := rfl
set_option maxRecDepth 100000 in
theorem cd_60 : lw_tbl[wpM 60]? = some (codW 60) := rfl
set_option maxRecDepth 100000 in
theorem cd_61 : lw_tbl[wpM 61]? = some (codW 61) := rfl
set_option maxRecDepth 100000 in
theorem cd_62 : lw_tbl[wpM 62]? = some (codW 62) := rfl
set_option maxRecDepth 100000 in
theorem cd_63 : lw_tbl[wpM 63]? = some (codW 63) := rfl
set_option maxRecDepth 100000 in
theorem cd_64 : lw_tbl[wpM 64]? = some (codW 64) := rfl
set_option maxRecDepth 100000 in
theorem cd_65 : lw_tbl[wpM 65]? = some (codW 65) := rfl
set_option maxRecDepth 100000 in
theorem cd_66 : lw_tbl[wpM 66]? = some (codW 66) := rfl
set_option maxRecDepth 100000 in
theorem cd_67 : lw_tbl[wpM 67]? = some (codW 67) := rfl
set_option maxRecDepth 100000 in
theorem cd_68 : lw_tbl[wpM 68]? = some (codW 68) := rfl
set_option maxRecDepth 100000 in
theorem cd_69 : lw_tbl[wpM 69]? = some (codW 69) := rfl
set_option maxRecDepth 100000 in
theorem cd_70 : lw_tbl[wpM 70]? = some (codW 70) := rfl
set_option maxRecDepth 100000 in
theorem cd_71 : lw_tbl[wpM 71]? = some (codW 71) := rfl
set_option maxRecDepth 100000 in
theorem cd_72 : lw_tbl[wpM 72]? = some (codW 72) := rfl
set_option maxRecDepth 100000 in
theorem cd_73 : lw_tbl[wpM 73]? = some (codW 73) := rfl
set_option maxRecDepth 100000 in
theorem cd_74 : lw_tbl[wpM 74]? = some (codW 74) := rfl
set_option maxRecDepth 100000 in
theorem cd_75 : lw_tbl[wpM 75]? = some (codW 75) := rfl
set_option maxRecDepth 100000 in
theorem cd_76 : lw_tbl[wpM 76]? = some (codW 76) := rfl
set_option maxRecDepth 100000 in
theorem cd_77 : lw_tbl[wpM 77]? = some (codW 77) := rfl
set_option maxRecDepth 100000 in
theorem cd_78 : lw_tbl[wpM 78]? = some (codW 78) := rfl
set_option maxRecDepth 100000 in
theorem cd_79 : lw_tbl[wpM 79]? = some (codW 79) := rfl
set_option maxRecDepth 100000 in
theorem cd_80 : lw_tbl[wpM 80]? = some (codW 80) := rfl
set_option maxRecDepth 100000 in
theorem cd_81 : lw_tbl[wpM 81]? = some (codW 81) := rfl
set_option maxRecDepth 100000 in
theorem cd_82 : lw_tbl[wpM 82]? = some (codW 82) := rfl
set_option maxRecDepth 100000 in
theorem cd_83 : lw_tbl[wpM 83]? = some (codW 83) := rfl
set_option maxRecDepth 100000 in
theorem cd_84 : lw_tbl[wpM 84]? = some (codW 84) := rfl
set_option maxRecDepth 100000 in
theorem cd_85 : lw_tbl[wpM 85]? = some (codW 85) := rfl
set_option maxRecDepth 100000 in
theorem cd_86 : lw_tbl[wpM 86]? = some (codW 86) := rfl
theorem cd_all : ∀ q, q < 87 → lw_tbl[wpM q]? = some (codW q)
  | 0, _ => cd_0
  | 1, _ => cd_1
  | 2, _ => cd_2
  | 3, _ => cd_3
  | 4, _ => cd_4
  | 5, _ => cd_5
  | 6, _ => cd_6
  | 7, _ => cd_7
  | 8, _ => cd_8
  | 9, _ => cd_9
  | 10, _ => cd_10
  | 11, _ => cd_11
  | 12, _ => cd_12
  | 13, _ => cd_13
  | 14, _ => cd_14
  | 15, _ => cd_15
  | 16, _ => cd_16
  | 17, _ => cd_17
  | 18, _ => cd_18
  | 19, _ => cd_19
  | 20, _ => cd_20
  | 21, _ => cd_21
  | 22, _ => cd_22
  | 23, _ => cd_23
  | 24, _ => cd_24
  | 25, _ => cd_25
  | 26, _ => cd_26
  | 27, _ => cd_27
  | 28, _ => cd_28
  | 29, _ => cd_29
  | 30, _ => cd_30
  | 31, _ => cd_31
  | 32, _ => cd_32
  | 33, _ => cd_33
  | 34, _ => cd_34
  | 35, _ => cd_35
  | 36, _ => cd_36
  | 37, _ => cd_37
  | 38, _ => cd_38
  | 39, _ => cd_39
  | 40, _ => cd_40
  | 41, _ => cd_41
  | 42, _ => cd_42
  | 43, _ => cd_43
  | 44, _ => cd_44
  | 45, _ => cd_45
  | 46, _ => cd_46
  | 47, _ => cd_47
  | 48, _ => cd_48
  | 49, _ => cd_49
  | 50, _ => cd_50
  | 51, _ => cd_51
  | 52, _ => cd_52
  | 53, _ => cd_53
  | 54, _ => cd_54
  | 55, _ => cd_55
  | 56, _ => cd_56
  | 57, _ => cd_57
  | 58, _ => cd_58
  | 59, _ => cd_59
  | 60, _ => cd_60
  | 61, _ => cd_61
  | 62, _ => cd_62
  | 63, _ => cd_63
  | 64, _ => cd_64
  | 65, _ => cd_65
  | 66, _ => cd_66
  | 67, _ => cd_67
  | 68, _ => cd_68
  | 69, _ => cd_69
  | 70, _ => cd_70
  | 71, _ => cd_71
  | 72, _ => cd_72
  | 73, _ => cd_73
  | 74, _ => cd_74
  | 75, _ => cd_75
  | 76, _ => cd_76
  | 77, _ => cd_77
  | 78, _ => cd_78
  | 79, _ => cd_79
  | 80, _ => cd_80
  | 81, _ => cd_81
  | 82, _ => cd_82
  | 83, _ => cd_83
  | 84, _ => cd_84
  | 85, _ => cd_85
  | 86, _ => cd_86
  | n + 87, h => absurd h (by omega)
theorem nM_eq : nM = 88 := rfl
theorem cod_in {q : Nat} (h : q < 87) : codW q ∈ lw_gd := List.mem_filter.mpr ⟨List.mem_of_getElem? (cd_all q h), rfl⟩
def ipOK (q : Nat) : Bool := if stM q = true then hasW (ipM q) (.static (yN q)) else hasW (ipM q) (.instanceMethod (yN q))
theorem ipA : (List.range 87).all ipOK = true := by decide +kernel
def spOK (q : Nat) : Bool := stM q || isI q || hasW (spM q) (.selects (yN q).cls (yN q) (yN q))
theorem spA : (List.range 87).all spOK = true := by decide +kernel
def clsOK (q : Nat) : Bool := (yN q).cls == CN (ow q) && hasW (iniT.getD (ow q) 0) (.initialized (CN (ow q)))
theorem clsA : (List.range 87).all clsOK = true := by decide +kernel
theorem mhA : (List.range 13).all (fun k => CN k != "java/lang/invoke/MethodHandle" && CN k != "java/lang/invoke/VarHandle") = true := by decide +kernel
theorem plA : (List.range 88).all (fun q => plainFor (yN q)) = true := by decide +kernel
theorem owA : (List.range 88).all (fun q => Nat.blt (ow q) 13 && Nat.ble (mL q) 24) = true := by decide +kernel
theorem iniA : (List.range 88).all (fun q => !(isI q) || ((yN q).name == "<init>" && mRt q == none)) = true := by decide +kernel
/-- of a link: its target, its kind, its word -/
def calOK (e : Nat × Nat × Nat × Nat × Nat) : Bool := Nat.blt e.2.2.1 87 && (match e.2.2.2.1 with
  | 0 => hasW e.2.2.2.2 (.methodLink (CN e.1) e.2.1 (yN e.2.2.1)) && !(stM e.2.2.1) && !(isI e.2.2.1) && Nat.blt (ow e.2.2.1) nCl
  | 1 => !(stM e.2.2.1) && !(isI e.2.2.1) && Nat.blt (ow e.2.2.1) nCl
  | 2 => hasW e.2.2.2.2 (.methodLink (CN e.1) e.2.1 (yN e.2.2.1)) && stM e.2.2.1
  | 3 => stM e.2.2.1
  | 4 => hasW e.2.2.2.2 (.methodLink (CN e.1) e.2.1 (yN e.2.2.1)) && !(stM e.2.2.1) && isI e.2.2.1
  | 5 => !(stM e.2.2.1) && isI e.2.2.1
  | _ => false)
theorem calA : calT.all calOK = true := by decide +kernel
def fldOK (e : Nat × Nat × Nat × Nat × Nat) : Bool := hasW e.2.2.2.2 (.fieldLink (CN e.1) e.2.1 (TT e.2.2.1 e.2.2.2.1).1 (TT e.2.2.1 e.2.2.2.1).2.1 (TT e.2.2.1 e.2.2.2.1).2.2.1) && Nat.blt e.2.2.2.1 (NN e.2.2.1) && Nat.blt e.2.2.1 nCl
theorem fldA : fldT.all fldOK = true := by decide +kernel
theorem layA : (List.range nCl).all (fun ci => (List.range (NN ci)).all fun k => hasW ((layT.getD ci []).getD k 0) (u_lay (CN ci) (TT ci) k)) = true := by decide +kernel
theorem cstA : cstT.all (fun e => hasW e.2.2.2 (.constantLong (CN e.1) e.2.1 e.2.2.1)) = true := by decide +kernel
theorem cniA : cniT.all (fun e => hasW e.2.2.2 (.constant (CN e.1) e.2.1 e.2.2.1)) = true := by decide +kernel
theorem nclA : nclT.all (fun e => hasW e.2.2.2 (.classLink (CN e.1) e.2.1 (CN e.2.2.1))) = true := by decide +kernel
theorem insA : (List.range nCl).all (fun ci => hasW (insT.getD ci 0) (.instantiable (CN ci) (NN ci)) && hasW (iniT.getD ci 0) (.initialized (CN ci))) = true := by decide +kernel
theorem arcA : (hasW arcI (.arrayClass .int) && hasW arcJ (.arrayClass .long)) = true := by decide +kernel
theorem objA : objT.all (fun e => hasW e.2.2 (.methodLink (CN e.1) e.2.1 objectInit)) = true := by decide +kernel
theorem objB : (hasW objW.1 (.instanceMethod objectInit) && hasW objW.2 (.code objectInit ⟨#[0xb1]⟩ 1 none)) = true := by decide +kernel
theorem cpyA : cpyT.all (fun e => hasW e.2.2 (.methodLink (CN e.1) e.2.1 arraycopyName)) = true := by decide +kernel
theorem cpyB : (hasW sysW.1 (.initialized "java/lang/System") && hasW sysW.2.1 (.static arraycopyName) && hasW sysW.2.2 (.native arraycopyName)) = true := by decide +kernel
theorem aovA : (decide (lw_tbl[aovT.getD 0 0]? = some (.arrayOver (.object (AON 3)))) && decide (lw_tbl[aovT.getD 1 0]? = some (.arrayOver (.object (AON 4)))) && (AON 3 == CN (aoC 3)) && (AON 4 == CN (aoC 4))) = true := by decide +kernel
theorem nstA : calT.all (fun e => (e.2.2.2.1 % 2 == 0) || decide (lw_tbl[e.2.2.2.2]? = some (.methodLinkNest (CN e.1) e.2.1 (yN e.2.2.1) NH))) = true := by decide +kernel
theorem tyA : (List.range nCl).all (fun ci => (List.range (NN ci)).all fun k => decide (parseFieldDescriptor (TT ci k).2.2.1 = some (tT ci k)) && (TT ci k).1 == CN ci && decide (defaultValue (tT ci k) = match fT ci k with | 0 => .int 0 | 1 => .long 0 | 2 => .null | _ => .int 0)) = true := by decide +kernel
theorem nmA : (List.range nCl).all (fun ci => (List.range (NN ci)).all fun a => (List.range (NN ci)).all fun b => a == b || (TT ci a).2.1 != (TT ci b).2.1) = true := by decide +kernel
def fKOK (ty : FieldType) (f : Nat) : Bool := match ty, f with
  | .int, 0 | .long, 1 | .boolean, 3 | .object _, 2 | .array _, 2 => true
  | _, _ => false
theorem fkA : (List.range nCl).all (fun ci => (List.range (NN ci)).all fun k => fKOK (tT ci k) (fT ci k)) = true := by decide +kernel
theorem cls_at : ∀ ci, ci < nCl → classes[ci]? = some (CN ci, TT ci, NN ci)
  | 0, _ => rfl | 1, _ => rfl | 2, _ => rfl | 3, _ => rfl | 4, _ => rfl | 5, _ => rfl | 6, _ => rfl | 7, _ => rfl | 8, _ => rfl
  | n + 9, h => absurd h (by unfold nCl; omega)
