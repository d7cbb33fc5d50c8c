/-! ===== both objects stand: the cells are mk mu0 ===== -/
def f58 : Nat → Int32 := (upd (upd (upd (upd (upd (upd (upd (upd (upd (upd (upd (upd (upd (upd (upd (upd (upd (upd (upd (upd (upd (upd (upd (upd (upd (upd (upd (upd (upd (upd (upd (upd (upd (upd (upd (upd (upd (upd (upd (upd (fun _ => 0) (0 : Int32).toNatClampNeg 105) ((0 : Int32) + 1).toNatClampNeg 114) ((0 : Int32) + 2).toNatClampNeg 111) ((0 : Int32) + 3).toNatClampNeg 110) ((0 : Int32) + 4).toNatClampNeg 115) ((0 : Int32) + 5).toNatClampNeg 32) ((0 : Int32) + 6).toNatClampNeg 57) ((0 : Int32) + 7).toNatClampNeg 32) (8 : Int32).toNatClampNeg 45) ((8 : Int32) + 1).toNatClampNeg 32) ((8 : Int32) + 2).toNatClampNeg 104) ((8 : Int32) + 3).toNatClampNeg 101) ((8 : Int32) + 4).toNatClampNeg 97) ((8 : Int32) + 5).toNatClampNeg 116) ((8 : Int32) + 6).toNatClampNeg 32) ((8 : Int32) + 7).toNatClampNeg 59) (16 : Int32).toNatClampNeg 32) ((16 : Int32) + 1).toNatClampNeg 116) ((16 : Int32) + 2).toNatClampNeg 97) ((16 : Int32) + 3).toNatClampNeg 107) ((16 : Int32) + 4).toNatClampNeg 101) ((16 : Int32) + 5).toNatClampNeg 115) ((16 : Int32) + 6).toNatClampNeg 32) ((16 : Int32) + 7).toNatClampNeg 50) (24 : Int32).toNatClampNeg 32) ((24 : Int32) + 1).toNatClampNeg 59) ((24 : Int32) + 2).toNatClampNeg 32) ((24 : Int32) + 3).toNatClampNeg 99) ((24 : Int32) + 4).toNatClampNeg 114) ((24 : Int32) + 5).toNatClampNeg 117) ((24 : Int32) + 6).toNatClampNeg 109) ((24 : Int32) + 7).toNatClampNeg 112) (32 : Int32).toNatClampNeg 108) ((32 : Int32) + 1).toNatClampNeg 101) ((32 : Int32) + 2).toNatClampNeg 115) ((32 : Int32) + 3).toNatClampNeg 32) ((32 : Int32) + 4).toNatClampNeg 52) ((32 : Int32) + 5).toNatClampNeg 32) ((32 : Int32) + 6).toNatClampNeg 59) ((32 : Int32) + 7).toNatClampNeg 32)
def mu0 : Mem := fun k => match k with
  | 1 => fun j => match j with | 0 => 5 | 1 => 40 | _ => 0
  | 6 => fun j => match j with | 0 => 5 | 1 => 40 | _ => 0
  | 11 => fun j => match j with | 0 => 5 | 1 => 40 | _ => 0
  | 16 => fun j => match j with | 4 => 1 | _ => 0
  | 18 => va_cpy (s_V 2) (fun _ => 0) 0 0 8
  | 25 => va_cpy (s_V 3) (fun _ => 0) 0 0 3
  | 33 => fun j => match j with | 2 => -1 | _ => 0
  | 35 => fun j => match j with | 3 => -1 | 7 => 1 | _ => 0
  | 50 => upd (upd (upd (upd (fun _ => 0) 0 (-1)) 1 (-1)) 2 (-1)) 3 (-1)
  | 57 => fun j => match j with | 3 => 1 | 7 => 5 | 8 => 40 | 38 => (-1) | _ => 0
  | 58 => f58
  | 59 => upd (fun _ => 0) 0 40
  | _ => fun _ => 0
def C57 : List AE := NF X7d 0 6 [.ref 1, .ref 6, .ref 11, .ref 16, .ref 33, .ref 35, .ref 48, .ref 49, .int 0] [.inr (4, [.int 5, .int 40, .int 0, .int 0, .ref 2, .ref 3, .ref 4, .ref 5]), ia0 7, ia0 7, ia0 7, ia0 7, .inr (4, [.int 5, .int 40, .int 0, .int 0, .ref 7, .ref 8, .ref 9, .ref 10]), ia0 7, ia0 7, ia0 7, ia0 7, .inr (4, [.int 5, .int 40, .int 0, .int 0, .ref 12, .ref 13, .ref 14, .ref 15]), ia0 7, ia0 7, ia0 7, ia0 7, .inr (5, [.ref 17, .ref 24, .ref 31, .ref 32, .int 1]), ga0 17 6, .inl (0, 160, .inl (va_cpy (s_V 2) (fun _ => 0) 0 0 8)), ia0 160, ia0 160, ia0 160, ia0 160, ia0 160, ga0 24 6, .inl (0, 3, .inl (va_cpy (s_V 3) (fun _ => 0) 0 0 3)), ia0 3, ia0 3, ia0 3, ia0 3, ia0 3, ia0 6, ia0 160, .inr (1, [.ref 34, .int 0, .null, .int 0, .int 0, .int 0, .int 0, .int 0]), ia0 160, .inr (0, [.ref 16, .ref 36, .int 0, .int (-1), .ref 37, .ref 46, .ref 47, .ref 1, .int 0, .int 0]), ia0 7, ga0 37 8, ia0 7, ia0 7, ia0 7, ia0 7, ia0 7, ia0 7, ia0 7, ia0 7, ia0 8, ia0 7, .inr (2, [.ref 35, .ref 11, .int 0, .int 0]), .inr (3, [.ref 50, .ref 51, .ref 52]), .inl (0, 4, .inl (upd (upd (upd (upd (fun _ => 0) 0 (-1)) 1 (-1)) 2 (-1)) 3 (-1))), ia0 4, ga0 52 4, ia0 40, ia0 40, ia0 40, ia0 40]
def C72 : List AE := NF (C57 ++ [.inr (7, X8d)]) 57 7 [.int 0, .ref (58), .ref (59), .int 1, .int 0, .ref (60), .int 0, .int 5, .int 40, .ref (61), .ref (62), .int 0, .int 0, .int 0, .int 0, .int 0, .int 0, .int 0, .int 0, .int 0, .int 0, .int 0, .int 0, .long 0, .int 0, .int 0, .int 0, .ref (63), .ref (64), .int 0, .int 0, .ref (65), .int 0, .int 0, .int 0, .int 0, .ref (66), .ref (67), .int (-1), .int 0, .int 0, .int 0, .ref (68), .ref (69), .ref (70), .ref (71)] [.inl (0, 960, .inl f58), .inl (0, 6, .inl (upd (fun _ => 0) 0 40)), ia0 160, ia0 7, ia0 21, ia0 7, ia0 7, ia0 64, ia0 7, ia0 21, .inl (1, 4, .inl (fun _ => 0)), ia0 4, ia0 4, ia0 160]
theorem C57_len : C57.length = 57 := by decide +kernel
theorem ck_0 : C72[0]? = some (mcell mu0 0) := rfl
theorem ck_1 : C72[1]? = some (mcell mu0 1) := rfl
theorem ck_2 : C72[2]? = some (mcell mu0 2) := rfl
theorem ck_3 : C72[3]? = some (mcell mu0 3) := rfl
theorem ck_4 : C72[4]? = some (mcell mu0 4) := rfl
theorem ck_5 : C72[5]? = some (mcell mu0 5) := rfl
theorem ck_6 : C72[6]? = some (mcell mu0 6) := rfl
theorem ck_7 : C72[7]? = some (mcell mu0 7) := rfl
theorem ck_8 : C72[8]? = some (mcell mu0 8) := rfl
theorem ck_9 : C72[9]? = some (mcell mu0 9) := rfl
theorem ck_10 : C72[10]? = some (mcell mu0 10) := rfl
theorem ck_11 : C72[11]? = some (mcell mu0 11) := rfl
theorem ck_12 : C72[12]? = some (mcell mu0 12) := rfl
theorem ck_13 : C72[13]? = some (mcell mu0 13) := rfl
theorem ck_14 : C72[14]? = some (mcell mu0 14) := rfl
theorem ck_15 : C72[15]? = some (mcell mu0 15) := rfl
theorem ck_16 : C72[16]? = some (mcell mu0 16) := rfl
theorem ck_17 : C72[17]? = some (mcell mu0 17) := rfl
theorem ck_18 : C72[18]? = some (mcell mu0 18) := rfl
theorem ck_19 : C72[19]? = some (mcell mu0 19) := rfl
theorem ck_20 : C72[20]? = some (mcell mu0 20) := rfl
theorem ck_21 : C72[21]? = some (mcell mu0 21) := rfl
theorem ck_22 : C72[22]? = some (mcell mu0 22) := rfl
theorem ck_23 : C72[23]? = some (mcell mu0 23) := rfl
theorem ck_24 : C72[24]? = some (mcell mu0 24) := rfl
theorem ck_25 : C72[25]? = some (mcell mu0 25) := rfl
theorem ck_26 : C72[26]? = some (mcell mu0 26) := rfl
theorem ck_27 : C72[27]? = some (mcell mu0 27) := rfl
theorem ck_28 : C72[28]? = some (mcell mu0 28) := rfl
theorem ck_29 : C72[29]? = some (mcell mu0 29) := rfl
theorem ck_30 : C72[30]? = some (mcell mu0 30) := rfl
theorem ck_31 : C72[31]? = some (mcell mu0 31) := rfl
theorem ck_32 : C72[32]? = some (mcell mu0 32) := rfl
theorem ck_33 : C72[33]? = some (mcell mu0 33) := rfl
theorem ck_34 : C72[34]? = some (mcell mu0 34) := rfl
theorem ck_35 : C72[35]? = some (mcell mu0 35) := rfl
theorem ck_36 : C72[36]? = some (mcell mu0 36) := rfl
theorem ck_37 : C72[37]? = some (mcell mu0 37) := rfl
theorem ck_38 : C72[38]? = some (mcell mu0 38) := rfl
theorem ck_39 : C72[39]? = some (mcell mu0 39) := rfl
theorem ck_40 : C72[40]? = some (mcell mu0 40) := rfl
theorem ck_41 : C72[41]? = some (mcell mu0 41) := rfl
theorem ck_42 : C72[42]? = some (mcell mu0 42) := rfl
theorem ck_43 : C72[43]? = some (mcell mu0 43) := rfl
theorem ck_44 : C72[44]? = some (mcell mu0 44) := rfl
theorem ck_45 : C72[45]? = some (mcell mu0 45) := rfl
theorem ck_46 : C72[46]? = some (mcell mu0 46) := rfl
theorem ck_47 : C72[47]? = some (mcell mu0 47) := rfl
theorem ck_48 : C72[48]? = some (mcell mu0 48) := rfl
theorem ck_49 : C72[49]? = some (mcell mu0 49) := rfl
theorem ck_50 : C72[50]? = some (mcell mu0 50) := rfl
theorem ck_51 : C72[51]? = some (mcell mu0 51) := rfl
theorem ck_52 : C72[52]? = some (mcell mu0 52) := rfl
theorem ck_53 : C72[53]? = some (mcell mu0 53) := rfl
theorem ck_54 : C72[54]? = some (mcell mu0 54) := rfl
theorem ck_55 : C72[55]? = some (mcell mu0 55) := rfl
theorem ck_56 : C72[56]? = some (mcell mu0 56) := rfl
theorem ck_58 : C72[58]? = some (mcell mu0 58) := rfl
theorem ck_59 : C72[59]? = some (mcell mu0 59) := rfl
theorem ck_60 : C72[60]? = some (mcell mu0 60) := rfl
theorem ck_61 : C72[61]? = some (mcell mu0 61) := rfl
theorem ck_62 : C72[62]? = some (mcell mu0 62) := rfl
theorem ck_63 : C72[63]? = some (mcell mu0 63) := rfl
theorem ck_64 : C72[64]? = some (mcell mu0 64) := rfl
theorem ck_65 : C72[65]? = some (mcell mu0 65) := rfl
theorem ck_66 : C72[66]? = some (mcell mu0 66) := rfl
theorem ck_67 : C72[67]? = some (mcell mu0 67) := rfl
theorem ck_68 : C72[68]? = some (mcell mu0 68) := rfl
theorem ck_69 : C72[69]? = some (mcell mu0 69) := rfl
theorem ck_70 : C72[70]? = some (mcell mu0 70) := rfl
theorem ck_71 : C72[71]? = some (mcell mu0 71) := rfl
theorem f57 : mflds mu0 57 7 = [.int 0, .ref (58), .ref (59), .int 1, .int 0, .ref (60), .int 0, .int 5, .int 40, .ref (61), .ref (62), .int 0, .int 0, .int 0, .int 0, .int 0, .int 0, .int 0, .int 0, .int 0, .int 0, .int 0, .int 0, .long 0, .int 0, .int 0, .int 0, .ref (63), .ref (64), .int 0, .int 0, .ref (65), .int 0, .int 0, .int 0, .int 0, .ref (66), .ref (67), .int (-1), .int 0, .int 0, .int 0, .ref (68), .ref (69), .ref (70), .ref (71)] := by decide +kernel
theorem ck_57 : C72[57]? = some (mcell mu0 57) := by
  have e : mcell mu0 57 = .inr (7, mflds mu0 57 7) := rfl
  rw [e, f57]
  rfl
theorem ck_ : ∀ i, i < 72 → C72[i]? = some (mcell mu0 i)
  | 0, _ => ck_0
  | 1, _ => ck_1
  | 2, _ => ck_2
  | 3, _ => ck_3
  | 4, _ => ck_4
  | 5, _ => ck_5
  | 6, _ => ck_6
  | 7, _ => ck_7
  | 8, _ => ck_8
  | 9, _ => ck_9
  | 10, _ => ck_10
  | 11, _ => ck_11
  | 12, _ => ck_12
  | 13, _ => ck_13
  | 14, _ => ck_14
  | 15, _ => ck_15
  | 16, _ => ck_16
  | 17, _ => ck_17
  | 18, _ => ck_18
  | 19, _ => ck_19
  | 20, _ => ck_20
  | 21, _ => ck_21
  | 22, _ => ck_22
  | 23, _ => ck_23
  | 24, _ => ck_24
  | 25, _ => ck_25
  | 26, _ => ck_26
  | 27, _ => ck_27
  | 28, _ => ck_28
  | 29, _ => ck_29
  | 30, _ => ck_30
  | 31, _ => ck_31
  | 32, _ => ck_32
  | 33, _ => ck_33
  | 34, _ => ck_34
  | 35, _ => ck_35
  | 36, _ => ck_36
  | 37, _ => ck_37
  | 38, _ => ck_38
  | 39, _ => ck_39
  | 40, _ => ck_40
  | 41, _ => ck_41
  | 42, _ => ck_42
  | 43, _ => ck_43
  | 44, _ => ck_44
  | 45, _ => ck_45
  | 46, _ => ck_46
  | 47, _ => ck_47
  | 48, _ => ck_48
  | 49, _ => ck_49
  | 50, _ => ck_50
  | 51, _ => ck_51
  | 52, _ => ck_52
  | 53, _ => ck_53
  | 54, _ => ck_54
  | 55, _ => ck_55
  | 56, _ => ck_56
  | 57, _ => ck_57
  | 58, _ => ck_58
  | 59, _ => ck_59
  | 60, _ => ck_60
  | 61, _ => ck_61
  | 62, _ => ck_62
  | 63, _ => ck_63
  | 64, _ => ck_64
  | 65, _ => ck_65
  | 66, _ => ck_66
  | 67, _ => ck_67
  | 68, _ => ck_68
  | 69, _ => ck_69
  | 70, _ => ck_70
  | 71, _ => ck_71
  | n + 72, h => absurd h (by omega)
theorem C72_len : C72.length = 72 := by decide +kernel
theorem C72_mk : C72 = mk mu0 := by
  apply List.ext_getElem?
  intro i
  by_cases h : i < 72
  · rw [ck_ i h, mk_at h]
  · rw [List.getElem?_eq_none (by rw [C72_len]; omega), List.getElem?_eq_none (by rw [mk_len]; omega)]
