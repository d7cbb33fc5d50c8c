/-! ===== the model's constructor ===== -/
def X8d : List Value := [.int 0, .null, .null, .int 0, .int 0, .null, .int 0, .int 0, .int 0, .null, .null, .int 0, .int 0, .int 0, .int 0, .int 0, .int 0, .int 0, .int 0, .int 0, .int 0, .int 0, .int 0, .long 0, .int 0, .int 0, .int 0, .null, .null, .int 0, .int 0, .null, .int 0, .int 0, .int 0, .int 0, .null, .null, .int 0, .int 0, .int 0, .int 0, .null, .null, .null, .null]
theorem hf_X8 : ∀ j, j < 46 → defaultValue (tyX8 j) = vp_V X8d j
  | 0, _ => rfl
  | 1, _ => rfl
  | 2, _ => rfl
  | 3, _ => rfl
  | 4, _ => rfl
  | 5, _ => rfl
  | 6, _ => rfl
  | 7, _ => rfl
  | 8, _ => rfl
  | 9, _ => rfl
  | 10, _ => rfl
  | 11, _ => rfl
  | 12, _ => rfl
  | 13, _ => rfl
  | 14, _ => rfl
  | 15, _ => rfl
  | 16, _ => rfl
  | 17, _ => rfl
  | 18, _ => rfl
  | 19, _ => rfl
  | 20, _ => rfl
  | 21, _ => rfl
  | 22, _ => rfl
  | 23, _ => rfl
  | 24, _ => rfl
  | 25, _ => rfl
  | 26, _ => rfl
  | 27, _ => rfl
  | 28, _ => rfl
  | 29, _ => rfl
  | 30, _ => rfl
  | 31, _ => rfl
  | 32, _ => rfl
  | 33, _ => rfl
  | 34, _ => rfl
  | 35, _ => rfl
  | 36, _ => rfl
  | 37, _ => rfl
  | 38, _ => rfl
  | 39, _ => rfl
  | 40, _ => rfl
  | 41, _ => rfl
  | 42, _ => rfl
  | 43, _ => rfl
  | 44, _ => rfl
  | 45, _ => rfl
  | n + 46, h => absurd h (by omega)
theorem wi_X8 : Cond.instantiable RX8 46 ∈ q_tbl := by decide +kernel
theorem wn_X8 : Cond.initialized RX8 ∈ q_tbl := by decide +kernel
section QSP
variable {X : Type} {emb : X → Option Value} {own : String} {cc : ByteArray} {nL : Nat} {ret : Option FieldType} {ini : Bool} {E : (Nat → Nat) → State → Prop} {d : Nat} {post : X → List AE → Prop} {kc ks pc : Nat} {L : List (Option Value)} {st : List Value} {M : List AE} {k : Nat} {fs : List Value} {A A' : List AE}
theorem i_spell {q n idx : Nat} {As st0 : List Value} {g : Nat → Int32} {j : Nat} (hM : CT eV yX8_spell cX8_spell 10 none 0 0 0 (.ref k :: As) (NF M k 7 fs A) (fun _ M1 => M1 = AR (NF M k 7 fs A) q g)) (hm : MV yX8_spell cX8_spell 10 none n) (hlk : Cond.methodLink own idx yX8_spell ∈ q_tbl) (hdp : 1 ≤ d) (hk : k < M.length) (hn : As.length = n) (hst : st0 = As.reverse ++ .ref k :: st) (hw : (st.map fun v => v.category).sum ≤ 8) (hd : decode cc pc = .ok (.invokevirtual idx, 3)) (hq : M.length + j = q) (hA : A.set j (.inl (0, 960, .inl g)) = A') (kk : WG emb own cc nL ret ini E d post kc ks (pc + 3) L st (NF M k 7 fs A')) : WG emb own cc nL ret ini E d post kc ks pc L st0 (NF M k 7 fs A) := by
  refine g_callV (mc := 0) (ms := 0) hM hm hlk hdp (NF.at_ hk) rfl rfl hn hst hw hd (fun x M' h => ?_)
  rw [h]
  unfold AR
  rw [NF.setA hq, hA]
  exact kk
end QSP
theorem c_X8_init {M : List AE} {k : Nat} (he : M[k]? = some (.inr (7, X8d))) (hm : M.length < 90000) : CT eV yX8_init cX8_init 1 none 1 14 1432 [.ref k] M (fun _ M1 => M1 = NF M k 7 [.int 0, .ref (M.length), .ref (M.length + 1), .int 1, .int 0, .ref (M.length + 2), .int 0, .int 5, .int 40, .ref (M.length + 3), .ref (M.length + 4), .int 0, .int 0, .int 0, .int 0, .int 0, .int 0, .int 0, .int 0, .int 0, .int 0, .int 0, .int 0, .long 0, .int 0, .int 0, .int 0, .ref (M.length + 5), .ref (M.length + 6), .int 0, .int 0, .ref (M.length + 7), .int 0, .int 0, .int 0, .int 0, .ref (M.length + 8), .ref (M.length + 9), .int (-1), .int 0, .int 0, .int 0, .ref (M.length + 10), .ref (M.length + 11), .ref (M.length + 12), .ref (M.length + 13)] [.inl (0, 960, .inl (upd (upd (upd (upd (upd (upd (upd (upd (upd (upd (upd (upd (upd (upd (upd (upd (upd (upd (upd (upd (upd (upd (upd (upd (upd (upd (upd (upd (upd (upd (upd (upd (upd (upd (upd (upd (upd (upd (upd (upd (fun _ => 0) (0 : Int32).toNatClampNeg 105) ((0 : Int32) + 1).toNatClampNeg 114) ((0 : Int32) + 2).toNatClampNeg 111) ((0 : Int32) + 3).toNatClampNeg 110) ((0 : Int32) + 4).toNatClampNeg 115) ((0 : Int32) + 5).toNatClampNeg 32) ((0 : Int32) + 6).toNatClampNeg 57) ((0 : Int32) + 7).toNatClampNeg 32) (8 : Int32).toNatClampNeg 45) ((8 : Int32) + 1).toNatClampNeg 32) ((8 : Int32) + 2).toNatClampNeg 104) ((8 : Int32) + 3).toNatClampNeg 101) ((8 : Int32) + 4).toNatClampNeg 97) ((8 : Int32) + 5).toNatClampNeg 116) ((8 : Int32) + 6).toNatClampNeg 32) ((8 : Int32) + 7).toNatClampNeg 59) (16 : Int32).toNatClampNeg 32) ((16 : Int32) + 1).toNatClampNeg 116) ((16 : Int32) + 2).toNatClampNeg 97) ((16 : Int32) + 3).toNatClampNeg 107) ((16 : Int32) + 4).toNatClampNeg 101) ((16 : Int32) + 5).toNatClampNeg 115) ((16 : Int32) + 6).toNatClampNeg 32) ((16 : Int32) + 7).toNatClampNeg 50) (24 : Int32).toNatClampNeg 32) ((24 : Int32) + 1).toNatClampNeg 59) ((24 : Int32) + 2).toNatClampNeg 32) ((24 : Int32) + 3).toNatClampNeg 99) ((24 : Int32) + 4).toNatClampNeg 114) ((24 : Int32) + 5).toNatClampNeg 117) ((24 : Int32) + 6).toNatClampNeg 109) ((24 : Int32) + 7).toNatClampNeg 112) (32 : Int32).toNatClampNeg 108) ((32 : Int32) + 1).toNatClampNeg 101) ((32 : Int32) + 2).toNatClampNeg 115) ((32 : Int32) + 3).toNatClampNeg 32) ((32 : Int32) + 4).toNatClampNeg 52) ((32 : Int32) + 5).toNatClampNeg 32) ((32 : Int32) + 6).toNatClampNeg 59) ((32 : Int32) + 7).toNatClampNeg 32)), .inl (0, 6, .inl (upd (fun _ => 0) 0 40)), ia0 160, ia0 7, ia0 21, ia0 7, ia0 7, ia0 64, ia0 7, ia0 21, .inl (1, 4, .inl (fun _ => 0)), ia0 4, ia0 4, ia0 160]) := by
  have hk : k < M.length := (List.getElem?_eq_some_iff.mp he).1
  refine CT.of true (by decide) (fun _ => rfl) (L := [some (.ref k)]) rfl (Nat.le_of_ble_eq_true rfl) ?_
  refine WG.to (NF.start he) ?_
  unfold X8d
  refine g_aload_n (pc := 0) dX8_init_0 rfl ?_
  refine g_objInit (pc := 1) ml_X8_7 (by decide) dX8_init_1 (Nat.le_of_ble_eq_true rfl) ?_
  refine g_aload_n (pc := 4) dX8_init_4 rfl ?_
  refine g_sipush (pc := 5) (v := 960) dX8_init_5 rfl ?_
  refine i_newi (pc := 8) (kc := 13) (ks := 472) (N := 960) (q := M.length) (A' := [ia0 960]) dX8_init_8 (by decide) (by decide) (by decide) rfl (by omega) rfl ?_
  refine i_putF (pc := 10) (fs' := [.int 0, .ref (M.length), .null, .int 0, .int 0, .null, .int 0, .int 0, .int 0, .null, .null, .int 0, .int 0, .int 0, .int 0, .int 0, .int 0, .int 0, .int 0, .int 0, .int 0, .int 0, .int 0, .long 0, .int 0, .int 0, .int 0, .null, .null, .int 0, .int 0, .null, .int 0, .int 0, .int 0, .int 0, .null, .null, .int 0, .int 0, .int 0, .int 0, .null, .null, .null, .null]) fw_X8_13 rfl dX8_init_10 hk (Nat.le_of_ble_eq_true rfl) rfl rfl rfl ?_
  refine g_aload_n (pc := 13) dX8_init_13 rfl ?_
  refine g_bipush (pc := 14) (v := 6) dX8_init_14 rfl ?_
  refine i_newi (pc := 16) (kc := 12) (ks := 466) (N := 6) (q := M.length + 1) (A' := [ia0 960, ia0 6]) dX8_init_16 (by decide) (by decide) (by decide) rfl (by omega) rfl ?_
  refine i_putF (pc := 18) (fs' := [.int 0, .ref (M.length), .ref (M.length + 1), .int 0, .int 0, .null, .int 0, .int 0, .int 0, .null, .null, .int 0, .int 0, .int 0, .int 0, .int 0, .int 0, .int 0, .int 0, .int 0, .int 0, .int 0, .int 0, .long 0, .int 0, .int 0, .int 0, .null, .null, .int 0, .int 0, .null, .int 0, .int 0, .int 0, .int 0, .null, .null, .int 0, .int 0, .int 0, .int 0, .null, .null, .null, .null]) fw_X8_17 rfl dX8_init_18 hk (Nat.le_of_ble_eq_true rfl) rfl rfl rfl ?_
  refine g_aload_n (pc := 21) dX8_init_21 rfl ?_
  refine g_sipush (pc := 22) (v := 160) dX8_init_22 rfl ?_
  refine i_newi (pc := 25) (kc := 11) (ks := 306) (N := 160) (q := M.length + 2) (A' := [ia0 960, ia0 6, ia0 160]) dX8_init_25 (by decide) (by decide) (by decide) rfl (by omega) rfl ?_
  refine i_putF (pc := 27) (fs' := [.int 0, .ref (M.length), .ref (M.length + 1), .int 0, .int 0, .ref (M.length + 2), .int 0, .int 0, .int 0, .null, .null, .int 0, .int 0, .int 0, .int 0, .int 0, .int 0, .int 0, .int 0, .int 0, .int 0, .int 0, .int 0, .long 0, .int 0, .int 0, .int 0, .null, .null, .int 0, .int 0, .null, .int 0, .int 0, .int 0, .int 0, .null, .null, .int 0, .int 0, .int 0, .int 0, .null, .null, .null, .null]) fw_X8_20 rfl dX8_init_27 hk (Nat.le_of_ble_eq_true rfl) rfl rfl rfl ?_
  refine g_aload_n (pc := 30) dX8_init_30 rfl ?_
  refine g_iconst (pc := 31) (v := 5) dX8_init_31 rfl ?_
  refine i_put (pc := 32) (fs' := [.int 0, .ref (M.length), .ref (M.length + 1), .int 0, .int 0, .ref (M.length + 2), .int 0, .int 5, .int 0, .null, .null, .int 0, .int 0, .int 0, .int 0, .int 0, .int 0, .int 0, .int 0, .int 0, .int 0, .int 0, .int 0, .long 0, .int 0, .int 0, .int 0, .null, .null, .int 0, .int 0, .null, .int 0, .int 0, .int 0, .int 0, .null, .null, .int 0, .int 0, .int 0, .int 0, .null, .null, .null, .null]) fw_X8_23 dX8_init_32 hk (Nat.le_of_ble_eq_true rfl) rfl rfl rfl ?_
  refine g_aload_n (pc := 35) dX8_init_35 rfl ?_
  refine g_bipush (pc := 36) (v := 40) dX8_init_36 rfl ?_
  refine i_put (pc := 38) (fs' := [.int 0, .ref (M.length), .ref (M.length + 1), .int 0, .int 0, .ref (M.length + 2), .int 0, .int 5, .int 40, .null, .null, .int 0, .int 0, .int 0, .int 0, .int 0, .int 0, .int 0, .int 0, .int 0, .int 0, .int 0, .int 0, .long 0, .int 0, .int 0, .int 0, .null, .null, .int 0, .int 0, .null, .int 0, .int 0, .int 0, .int 0, .null, .null, .int 0, .int 0, .int 0, .int 0, .null, .null, .null, .null]) fw_X8_26 dX8_init_38 hk (Nat.le_of_ble_eq_true rfl) rfl rfl rfl ?_
  refine g_aload_n (pc := 41) dX8_init_41 rfl ?_
  refine g_bipush (pc := 42) (v := 7) dX8_init_42 rfl ?_
  refine i_newi (pc := 44) (kc := 10) (ks := 299) (N := 7) (q := M.length + 3) (A' := [ia0 960, ia0 6, ia0 160, ia0 7]) dX8_init_44 (by decide) (by decide) (by decide) rfl (by omega) rfl ?_
  refine i_putF (pc := 46) (fs' := [.int 0, .ref (M.length), .ref (M.length + 1), .int 0, .int 0, .ref (M.length + 2), .int 0, .int 5, .int 40, .ref (M.length + 3), .null, .int 0, .int 0, .int 0, .int 0, .int 0, .int 0, .int 0, .int 0, .int 0, .int 0, .int 0, .int 0, .long 0, .int 0, .int 0, .int 0, .null, .null, .int 0, .int 0, .null, .int 0, .int 0, .int 0, .int 0, .null, .null, .int 0, .int 0, .int 0, .int 0, .null, .null, .null, .null]) fw_X8_29 rfl dX8_init_46 hk (Nat.le_of_ble_eq_true rfl) rfl rfl rfl ?_
  refine g_aload_n (pc := 49) dX8_init_49 rfl ?_
  refine g_bipush (pc := 50) (v := 21) dX8_init_50 rfl ?_
  refine i_newi (pc := 52) (kc := 9) (ks := 278) (N := 21) (q := M.length + 4) (A' := [ia0 960, ia0 6, ia0 160, ia0 7, ia0 21]) dX8_init_52 (by decide) (by decide) (by decide) rfl (by omega) rfl ?_
  refine i_putF (pc := 54) (fs' := [.int 0, .ref (M.length), .ref (M.length + 1), .int 0, .int 0, .ref (M.length + 2), .int 0, .int 5, .int 40, .ref (M.length + 3), .ref (M.length + 4), .int 0, .int 0, .int 0, .int 0, .int 0, .int 0, .int 0, .int 0, .int 0, .int 0, .int 0, .int 0, .long 0, .int 0, .int 0, .int 0, .null, .null, .int 0, .int 0, .null, .int 0, .int 0, .int 0, .int 0, .null, .null, .int 0, .int 0, .int 0, .int 0, .null, .null, .null, .null]) fw_X8_32 rfl dX8_init_54 hk (Nat.le_of_ble_eq_true rfl) rfl rfl rfl ?_
  refine g_aload_n (pc := 57) dX8_init_57 rfl ?_
  refine g_bipush (pc := 58) (v := 7) dX8_init_58 rfl ?_
  refine i_newi (pc := 60) (kc := 8) (ks := 271) (N := 7) (q := M.length + 5) (A' := [ia0 960, ia0 6, ia0 160, ia0 7, ia0 21, ia0 7]) dX8_init_60 (by decide) (by decide) (by decide) rfl (by omega) rfl ?_
  refine i_putF (pc := 62) (fs' := [.int 0, .ref (M.length), .ref (M.length + 1), .int 0, .int 0, .ref (M.length + 2), .int 0, .int 5, .int 40, .ref (M.length + 3), .ref (M.length + 4), .int 0, .int 0, .int 0, .int 0, .int 0, .int 0, .int 0, .int 0, .int 0, .int 0, .int 0, .int 0, .long 0, .int 0, .int 0, .int 0, .ref (M.length + 5), .null, .int 0, .int 0, .null, .int 0, .int 0, .int 0, .int 0, .null, .null, .int 0, .int 0, .int 0, .int 0, .null, .null, .null, .null]) fw_X8_35 rfl dX8_init_62 hk (Nat.le_of_ble_eq_true rfl) rfl rfl rfl ?_
  refine g_aload_n (pc := 65) dX8_init_65 rfl ?_
  refine g_bipush (pc := 66) (v := 7) dX8_init_66 rfl ?_
  refine i_newi (pc := 68) (kc := 7) (ks := 264) (N := 7) (q := M.length + 6) (A' := [ia0 960, ia0 6, ia0 160, ia0 7, ia0 21, ia0 7, ia0 7]) dX8_init_68 (by decide) (by decide) (by decide) rfl (by omega) rfl ?_
  refine i_putF (pc := 70) (fs' := [.int 0, .ref (M.length), .ref (M.length + 1), .int 0, .int 0, .ref (M.length + 2), .int 0, .int 5, .int 40, .ref (M.length + 3), .ref (M.length + 4), .int 0, .int 0, .int 0, .int 0, .int 0, .int 0, .int 0, .int 0, .int 0, .int 0, .int 0, .int 0, .long 0, .int 0, .int 0, .int 0, .ref (M.length + 5), .ref (M.length + 6), .int 0, .int 0, .null, .int 0, .int 0, .int 0, .int 0, .null, .null, .int 0, .int 0, .int 0, .int 0, .null, .null, .null, .null]) fw_X8_38 rfl dX8_init_70 hk (Nat.le_of_ble_eq_true rfl) rfl rfl rfl ?_
  refine g_aload_n (pc := 73) dX8_init_73 rfl ?_
  refine g_bipush (pc := 74) (v := 64) dX8_init_74 rfl ?_
  refine i_newi (pc := 76) (kc := 6) (ks := 200) (N := 64) (q := M.length + 7) (A' := [ia0 960, ia0 6, ia0 160, ia0 7, ia0 21, ia0 7, ia0 7, ia0 64]) dX8_init_76 (by decide) (by decide) (by decide) rfl (by omega) rfl ?_
  refine i_putF (pc := 78) (fs' := [.int 0, .ref (M.length), .ref (M.length + 1), .int 0, .int 0, .ref (M.length + 2), .int 0, .int 5, .int 40, .ref (M.length + 3), .ref (M.length + 4), .int 0, .int 0, .int 0, .int 0, .int 0, .int 0, .int 0, .int 0, .int 0, .int 0, .int 0, .int 0, .long 0, .int 0, .int 0, .int 0, .ref (M.length + 5), .ref (M.length + 6), .int 0, .int 0, .ref (M.length + 7), .int 0, .int 0, .int 0, .int 0, .null, .null, .int 0, .int 0, .int 0, .int 0, .null, .null, .null, .null]) fw_X8_41 rfl dX8_init_78 hk (Nat.le_of_ble_eq_true rfl) rfl rfl rfl ?_
  refine g_aload_n (pc := 81) dX8_init_81 rfl ?_
  refine g_bipush (pc := 82) (v := 7) dX8_init_82 rfl ?_
  refine i_newi (pc := 84) (kc := 5) (ks := 193) (N := 7) (q := M.length + 8) (A' := [ia0 960, ia0 6, ia0 160, ia0 7, ia0 21, ia0 7, ia0 7, ia0 64, ia0 7]) dX8_init_84 (by decide) (by decide) (by decide) rfl (by omega) rfl ?_
  refine i_putF (pc := 86) (fs' := [.int 0, .ref (M.length), .ref (M.length + 1), .int 0, .int 0, .ref (M.length + 2), .int 0, .int 5, .int 40, .ref (M.length + 3), .ref (M.length + 4), .int 0, .int 0, .int 0, .int 0, .int 0, .int 0, .int 0, .int 0, .int 0, .int 0, .int 0, .int 0, .long 0, .int 0, .int 0, .int 0, .ref (M.length + 5), .ref (M.length + 6), .int 0, .int 0, .ref (M.length + 7), .int 0, .int 0, .int 0, .int 0, .ref (M.length + 8), .null, .int 0, .int 0, .int 0, .int 0, .null, .null, .null, .null]) fw_X8_44 rfl dX8_init_86 hk (Nat.le_of_ble_eq_true rfl) rfl rfl rfl ?_
  refine g_aload_n (pc := 89) dX8_init_89 rfl ?_
  refine g_bipush (pc := 90) (v := 21) dX8_init_90 rfl ?_
  refine i_newi (pc := 92) (kc := 4) (ks := 172) (N := 21) (q := M.length + 9) (A' := [ia0 960, ia0 6, ia0 160, ia0 7, ia0 21, ia0 7, ia0 7, ia0 64, ia0 7, ia0 21]) dX8_init_92 (by decide) (by decide) (by decide) rfl (by omega) rfl ?_
  refine i_putF (pc := 94) (fs' := [.int 0, .ref (M.length), .ref (M.length + 1), .int 0, .int 0, .ref (M.length + 2), .int 0, .int 5, .int 40, .ref (M.length + 3), .ref (M.length + 4), .int 0, .int 0, .int 0, .int 0, .int 0, .int 0, .int 0, .int 0, .int 0, .int 0, .int 0, .int 0, .long 0, .int 0, .int 0, .int 0, .ref (M.length + 5), .ref (M.length + 6), .int 0, .int 0, .ref (M.length + 7), .int 0, .int 0, .int 0, .int 0, .ref (M.length + 8), .ref (M.length + 9), .int 0, .int 0, .int 0, .int 0, .null, .null, .null, .null]) fw_X8_47 rfl dX8_init_94 hk (Nat.le_of_ble_eq_true rfl) rfl rfl rfl ?_
  refine g_aload_n (pc := 97) dX8_init_97 rfl ?_
  refine g_iconst (pc := 98) (v := -1) dX8_init_98 rfl ?_
  refine i_put (pc := 99) (fs' := [.int 0, .ref (M.length), .ref (M.length + 1), .int 0, .int 0, .ref (M.length + 2), .int 0, .int 5, .int 40, .ref (M.length + 3), .ref (M.length + 4), .int 0, .int 0, .int 0, .int 0, .int 0, .int 0, .int 0, .int 0, .int 0, .int 0, .int 0, .int 0, .long 0, .int 0, .int 0, .int 0, .ref (M.length + 5), .ref (M.length + 6), .int 0, .int 0, .ref (M.length + 7), .int 0, .int 0, .int 0, .int 0, .ref (M.length + 8), .ref (M.length + 9), .int (-1), .int 0, .int 0, .int 0, .null, .null, .null, .null]) fw_X8_50 dX8_init_99 hk (Nat.le_of_ble_eq_true rfl) rfl rfl rfl ?_
  refine g_aload_n (pc := 102) dX8_init_102 rfl ?_
  refine g_iconst (pc := 103) (v := 4) dX8_init_103 rfl ?_
  refine i_newz (pc := 104) (kc := 3) (ks := 168) (N := 4) (q := M.length + 10) (A' := [ia0 960, ia0 6, ia0 160, ia0 7, ia0 21, ia0 7, ia0 7, ia0 64, ia0 7, ia0 21, .inl (1, 4, .inl (fun _ => 0))]) dX8_init_104 (by decide) (by decide) (by decide) rfl (by omega) rfl ?_
  refine i_putF (pc := 106) (fs' := [.int 0, .ref (M.length), .ref (M.length + 1), .int 0, .int 0, .ref (M.length + 2), .int 0, .int 5, .int 40, .ref (M.length + 3), .ref (M.length + 4), .int 0, .int 0, .int 0, .int 0, .int 0, .int 0, .int 0, .int 0, .int 0, .int 0, .int 0, .int 0, .long 0, .int 0, .int 0, .int 0, .ref (M.length + 5), .ref (M.length + 6), .int 0, .int 0, .ref (M.length + 7), .int 0, .int 0, .int 0, .int 0, .ref (M.length + 8), .ref (M.length + 9), .int (-1), .int 0, .int 0, .int 0, .ref (M.length + 10), .null, .null, .null]) fw_X8_53 rfl dX8_init_106 hk (Nat.le_of_ble_eq_true rfl) rfl rfl rfl ?_
  refine g_aload_n (pc := 109) dX8_init_109 rfl ?_
  refine g_iconst (pc := 110) (v := 4) dX8_init_110 rfl ?_
  refine i_newi (pc := 111) (kc := 2) (ks := 164) (N := 4) (q := M.length + 11) (A' := [ia0 960, ia0 6, ia0 160, ia0 7, ia0 21, ia0 7, ia0 7, ia0 64, ia0 7, ia0 21, .inl (1, 4, .inl (fun _ => 0)), ia0 4]) dX8_init_111 (by decide) (by decide) (by decide) rfl (by omega) rfl ?_
  refine i_putF (pc := 113) (fs' := [.int 0, .ref (M.length), .ref (M.length + 1), .int 0, .int 0, .ref (M.length + 2), .int 0, .int 5, .int 40, .ref (M.length + 3), .ref (M.length + 4), .int 0, .int 0, .int 0, .int 0, .int 0, .int 0, .int 0, .int 0, .int 0, .int 0, .int 0, .int 0, .long 0, .int 0, .int 0, .int 0, .ref (M.length + 5), .ref (M.length + 6), .int 0, .int 0, .ref (M.length + 7), .int 0, .int 0, .int 0, .int 0, .ref (M.length + 8), .ref (M.length + 9), .int (-1), .int 0, .int 0, .int 0, .ref (M.length + 10), .ref (M.length + 11), .null, .null]) fw_X8_57 rfl dX8_init_113 hk (Nat.le_of_ble_eq_true rfl) rfl rfl rfl ?_
  refine g_aload_n (pc := 116) dX8_init_116 rfl ?_
  refine g_iconst (pc := 117) (v := 4) dX8_init_117 rfl ?_
  refine i_newi (pc := 118) (kc := 1) (ks := 160) (N := 4) (q := M.length + 12) (A' := [ia0 960, ia0 6, ia0 160, ia0 7, ia0 21, ia0 7, ia0 7, ia0 64, ia0 7, ia0 21, .inl (1, 4, .inl (fun _ => 0)), ia0 4, ia0 4]) dX8_init_118 (by decide) (by decide) (by decide) rfl (by omega) rfl ?_
  refine i_putF (pc := 120) (fs' := [.int 0, .ref (M.length), .ref (M.length + 1), .int 0, .int 0, .ref (M.length + 2), .int 0, .int 5, .int 40, .ref (M.length + 3), .ref (M.length + 4), .int 0, .int 0, .int 0, .int 0, .int 0, .int 0, .int 0, .int 0, .int 0, .int 0, .int 0, .int 0, .long 0, .int 0, .int 0, .int 0, .ref (M.length + 5), .ref (M.length + 6), .int 0, .int 0, .ref (M.length + 7), .int 0, .int 0, .int 0, .int 0, .ref (M.length + 8), .ref (M.length + 9), .int (-1), .int 0, .int 0, .int 0, .ref (M.length + 10), .ref (M.length + 11), .ref (M.length + 12), .null]) fw_X8_60 rfl dX8_init_120 hk (Nat.le_of_ble_eq_true rfl) rfl rfl rfl ?_
  refine g_aload_n (pc := 123) dX8_init_123 rfl ?_
  refine g_sipush (pc := 124) (v := 160) dX8_init_124 rfl ?_
  refine i_newi (pc := 127) (kc := 0) (ks := 0) (N := 160) (q := M.length + 13) (A' := [ia0 960, ia0 6, ia0 160, ia0 7, ia0 21, ia0 7, ia0 7, ia0 64, ia0 7, ia0 21, .inl (1, 4, .inl (fun _ => 0)), ia0 4, ia0 4, ia0 160]) dX8_init_127 (by decide) (by decide) (by decide) rfl (by omega) rfl ?_
  refine i_putF (pc := 129) (fs' := [.int 0, .ref (M.length), .ref (M.length + 1), .int 0, .int 0, .ref (M.length + 2), .int 0, .int 5, .int 40, .ref (M.length + 3), .ref (M.length + 4), .int 0, .int 0, .int 0, .int 0, .int 0, .int 0, .int 0, .int 0, .int 0, .int 0, .int 0, .int 0, .long 0, .int 0, .int 0, .int 0, .ref (M.length + 5), .ref (M.length + 6), .int 0, .int 0, .ref (M.length + 7), .int 0, .int 0, .int 0, .int 0, .ref (M.length + 8), .ref (M.length + 9), .int (-1), .int 0, .int 0, .int 0, .ref (M.length + 10), .ref (M.length + 11), .ref (M.length + 12), .ref (M.length + 13)]) fw_X8_63 rfl dX8_init_129 hk (Nat.le_of_ble_eq_true rfl) rfl rfl rfl ?_
  refine g_aload_n (pc := 132) dX8_init_132 rfl ?_
  refine g_iconst (pc := 133) (v := 0) dX8_init_133 rfl ?_
  refine g_bipush (pc := 134) (v := 105) dX8_init_134 rfl ?_
  refine g_bipush (pc := 136) (v := 114) dX8_init_136 rfl ?_
  refine g_bipush (pc := 138) (v := 111) dX8_init_138 rfl ?_
  refine g_bipush (pc := 140) (v := 110) dX8_init_140 rfl ?_
  refine g_bipush (pc := 142) (v := 115) dX8_init_142 rfl ?_
  refine g_bipush (pc := 144) (v := 32) dX8_init_144 rfl ?_
  refine g_bipush (pc := 146) (v := 57) dX8_init_146 rfl ?_
  refine g_bipush (pc := 148) (v := 32) dX8_init_148 rfl ?_
  refine i_spell (pc := 150) (q := M.length) (j := 0) (A' := [.inl (0, 960, .inl (upd (upd (upd (upd (upd (upd (upd (upd (fun _ => 0) (0 : Int32).toNatClampNeg 105) ((0 : Int32) + 1).toNatClampNeg 114) ((0 : Int32) + 2).toNatClampNeg 111) ((0 : Int32) + 3).toNatClampNeg 110) ((0 : Int32) + 4).toNatClampNeg 115) ((0 : Int32) + 5).toNatClampNeg 32) ((0 : Int32) + 6).toNatClampNeg 57) ((0 : Int32) + 7).toNatClampNeg 32)), ia0 6, ia0 160, ia0 7, ia0 21, ia0 7, ia0 7, ia0 64, ia0 7, ia0 21, .inl (1, 4, .inl (fun _ => 0)), ia0 4, ia0 4, ia0 160]) (c_X8_spell (x := 0) (NF.at_ hk) rfl ((NF.atA (j := 0) rfl).trans rfl) (by unfold vp_in; decide) (by unfold vp_in; decide) (by unfold vp_in; decide) (by unfold vp_in; decide) (by unfold vp_in; decide) (by unfold vp_in; decide) (by unfold vp_in; decide) (by unfold vp_in; decide)) m_X8_spell ml_X8_66 (by decide) hk rfl rfl (Nat.le_of_ble_eq_true rfl) dX8_init_150 rfl rfl ?_
  refine g_aload_n (pc := 153) dX8_init_153 rfl ?_
  refine g_bipush (pc := 154) (v := 8) dX8_init_154 rfl ?_
  refine g_bipush (pc := 156) (v := 45) dX8_init_156 rfl ?_
  refine g_bipush (pc := 158) (v := 32) dX8_init_158 rfl ?_
  refine g_bipush (pc := 160) (v := 104) dX8_init_160 rfl ?_
  refine g_bipush (pc := 162) (v := 101) dX8_init_162 rfl ?_
  refine g_bipush (pc := 164) (v := 97) dX8_init_164 rfl ?_
  refine g_bipush (pc := 166) (v := 116) dX8_init_166 rfl ?_
  refine g_bipush (pc := 168) (v := 32) dX8_init_168 rfl ?_
  refine g_bipush (pc := 170) (v := 59) dX8_init_170 rfl ?_
  refine i_spell (pc := 172) (q := M.length) (j := 0) (A' := [.inl (0, 960, .inl (upd (upd (upd (upd (upd (upd (upd (upd (upd (upd (upd (upd (upd (upd (upd (upd (fun _ => 0) (0 : Int32).toNatClampNeg 105) ((0 : Int32) + 1).toNatClampNeg 114) ((0 : Int32) + 2).toNatClampNeg 111) ((0 : Int32) + 3).toNatClampNeg 110) ((0 : Int32) + 4).toNatClampNeg 115) ((0 : Int32) + 5).toNatClampNeg 32) ((0 : Int32) + 6).toNatClampNeg 57) ((0 : Int32) + 7).toNatClampNeg 32) (8 : Int32).toNatClampNeg 45) ((8 : Int32) + 1).toNatClampNeg 32) ((8 : Int32) + 2).toNatClampNeg 104) ((8 : Int32) + 3).toNatClampNeg 101) ((8 : Int32) + 4).toNatClampNeg 97) ((8 : Int32) + 5).toNatClampNeg 116) ((8 : Int32) + 6).toNatClampNeg 32) ((8 : Int32) + 7).toNatClampNeg 59)), ia0 6, ia0 160, ia0 7, ia0 21, ia0 7, ia0 7, ia0 64, ia0 7, ia0 21, .inl (1, 4, .inl (fun _ => 0)), ia0 4, ia0 4, ia0 160]) (c_X8_spell (x := 8) (NF.at_ hk) rfl ((NF.atA (j := 0) rfl).trans rfl) (by unfold vp_in; decide) (by unfold vp_in; decide) (by unfold vp_in; decide) (by unfold vp_in; decide) (by unfold vp_in; decide) (by unfold vp_in; decide) (by unfold vp_in; decide) (by unfold vp_in; decide)) m_X8_spell ml_X8_66 (by decide) hk rfl rfl (Nat.le_of_ble_eq_true rfl) dX8_init_172 rfl rfl ?_
  refine g_aload_n (pc := 175) dX8_init_175 rfl ?_
  refine g_bipush (pc := 176) (v := 16) dX8_init_176 rfl ?_
  refine g_bipush (pc := 178) (v := 32) dX8_init_178 rfl ?_
  refine g_bipush (pc := 180) (v := 116) dX8_init_180 rfl ?_
  refine g_bipush (pc := 182) (v := 97) dX8_init_182 rfl ?_
  refine g_bipush (pc := 184) (v := 107) dX8_init_184 rfl ?_
  refine g_bipush (pc := 186) (v := 101) dX8_init_186 rfl ?_
  refine g_bipush (pc := 188) (v := 115) dX8_init_188 rfl ?_
  refine g_bipush (pc := 190) (v := 32) dX8_init_190 rfl ?_
  refine g_bipush (pc := 192) (v := 50) dX8_init_192 rfl ?_
  refine i_spell (pc := 194) (q := M.length) (j := 0) (A' := [.inl (0, 960, .inl (upd (upd (upd (upd (upd (upd (upd (upd (upd (upd (upd (upd (upd (upd (upd (upd (upd (upd (upd (upd (upd (upd (upd (upd (fun _ => 0) (0 : Int32).toNatClampNeg 105) ((0 : Int32) + 1).toNatClampNeg 114) ((0 : Int32) + 2).toNatClampNeg 111) ((0 : Int32) + 3).toNatClampNeg 110) ((0 : Int32) + 4).toNatClampNeg 115) ((0 : Int32) + 5).toNatClampNeg 32) ((0 : Int32) + 6).toNatClampNeg 57) ((0 : Int32) + 7).toNatClampNeg 32) (8 : Int32).toNatClampNeg 45) ((8 : Int32) + 1).toNatClampNeg 32) ((8 : Int32) + 2).toNatClampNeg 104) ((8 : Int32) + 3).toNatClampNeg 101) ((8 : Int32) + 4).toNatClampNeg 97) ((8 : Int32) + 5).toNatClampNeg 116) ((8 : Int32) + 6).toNatClampNeg 32) ((8 : Int32) + 7).toNatClampNeg 59) (16 : Int32).toNatClampNeg 32) ((16 : Int32) + 1).toNatClampNeg 116) ((16 : Int32) + 2).toNatClampNeg 97) ((16 : Int32) + 3).toNatClampNeg 107) ((16 : Int32) + 4).toNatClampNeg 101) ((16 : Int32) + 5).toNatClampNeg 115) ((16 : Int32) + 6).toNatClampNeg 32) ((16 : Int32) + 7).toNatClampNeg 50)), ia0 6, ia0 160, ia0 7, ia0 21, ia0 7, ia0 7, ia0 64, ia0 7, ia0 21, .inl (1, 4, .inl (fun _ => 0)), ia0 4, ia0 4, ia0 160]) (c_X8_spell (x := 16) (NF.at_ hk) rfl ((NF.atA (j := 0) rfl).trans rfl) (by unfold vp_in; decide) (by unfold vp_in; decide) (by unfold vp_in; decide) (by unfold vp_in; decide) (by unfold vp_in; decide) (by unfold vp_in; decide) (by unfold vp_in; decide) (by unfold vp_in; decide)) m_X8_spell ml_X8_66 (by decide) hk rfl rfl (Nat.le_of_ble_eq_true rfl) dX8_init_194 rfl rfl ?_
  refine g_aload_n (pc := 197) dX8_init_197 rfl ?_
  refine g_bipush (pc := 198) (v := 24) dX8_init_198 rfl ?_
  refine g_bipush (pc := 200) (v := 32) dX8_init_200 rfl ?_
  refine g_bipush (pc := 202) (v := 59) dX8_init_202 rfl ?_
  refine g_bipush (pc := 204) (v := 32) dX8_init_204 rfl ?_
  refine g_bipush (pc := 206) (v := 99) dX8_init_206 rfl ?_
  refine g_bipush (pc := 208) (v := 114) dX8_init_208 rfl ?_
  refine g_bipush (pc := 210) (v := 117) dX8_init_210 rfl ?_
  refine g_bipush (pc := 212) (v := 109) dX8_init_212 rfl ?_
  refine g_bipush (pc := 214) (v := 112) dX8_init_214 rfl ?_
  refine i_spell (pc := 216) (q := M.length) (j := 0) (A' := [.inl (0, 960, .inl (upd (upd (upd (upd (upd (upd (upd (upd (upd (upd (upd (upd (upd (upd (upd (upd (upd (upd (upd (upd (upd (upd (upd (upd (upd (upd (upd (upd (upd (upd (upd (upd (fun _ => 0) (0 : Int32).toNatClampNeg 105) ((0 : Int32) + 1).toNatClampNeg 114) ((0 : Int32) + 2).toNatClampNeg 111) ((0 : Int32) + 3).toNatClampNeg 110) ((0 : Int32) + 4).toNatClampNeg 115) ((0 : Int32) + 5).toNatClampNeg 32) ((0 : Int32) + 6).toNatClampNeg 57) ((0 : Int32) + 7).toNatClampNeg 32) (8 : Int32).toNatClampNeg 45) ((8 : Int32) + 1).toNatClampNeg 32) ((8 : Int32) + 2).toNatClampNeg 104) ((8 : Int32) + 3).toNatClampNeg 101) ((8 : Int32) + 4).toNatClampNeg 97) ((8 : Int32) + 5).toNatClampNeg 116) ((8 : Int32) + 6).toNatClampNeg 32) ((8 : Int32) + 7).toNatClampNeg 59) (16 : Int32).toNatClampNeg 32) ((16 : Int32) + 1).toNatClampNeg 116) ((16 : Int32) + 2).toNatClampNeg 97) ((16 : Int32) + 3).toNatClampNeg 107) ((16 : Int32) + 4).toNatClampNeg 101) ((16 : Int32) + 5).toNatClampNeg 115) ((16 : Int32) + 6).toNatClampNeg 32) ((16 : Int32) + 7).toNatClampNeg 50) (24 : Int32).toNatClampNeg 32) ((24 : Int32) + 1).toNatClampNeg 59) ((24 : Int32) + 2).toNatClampNeg 32) ((24 : Int32) + 3).toNatClampNeg 99) ((24 : Int32) + 4).toNatClampNeg 114) ((24 : Int32) + 5).toNatClampNeg 117) ((24 : Int32) + 6).toNatClampNeg 109) ((24 : Int32) + 7).toNatClampNeg 112)), ia0 6, ia0 160, ia0 7, ia0 21, ia0 7, ia0 7, ia0 64, ia0 7, ia0 21, .inl (1, 4, .inl (fun _ => 0)), ia0 4, ia0 4, ia0 160]) (c_X8_spell (x := 24) (NF.at_ hk) rfl ((NF.atA (j := 0) rfl).trans rfl) (by unfold vp_in; decide) (by unfold vp_in; decide) (by unfold vp_in; decide) (by unfold vp_in; decide) (by unfold vp_in; decide) (by unfold vp_in; decide) (by unfold vp_in; decide) (by unfold vp_in; decide)) m_X8_spell ml_X8_66 (by decide) hk rfl rfl (Nat.le_of_ble_eq_true rfl) dX8_init_216 rfl rfl ?_
  refine g_aload_n (pc := 219) dX8_init_219 rfl ?_
  refine g_bipush (pc := 220) (v := 32) dX8_init_220 rfl ?_
  refine g_bipush (pc := 222) (v := 108) dX8_init_222 rfl ?_
  refine g_bipush (pc := 224) (v := 101) dX8_init_224 rfl ?_
  refine g_bipush (pc := 226) (v := 115) dX8_init_226 rfl ?_
  refine g_bipush (pc := 228) (v := 32) dX8_init_228 rfl ?_
  refine g_bipush (pc := 230) (v := 52) dX8_init_230 rfl ?_
  refine g_bipush (pc := 232) (v := 32) dX8_init_232 rfl ?_
  refine g_bipush (pc := 234) (v := 59) dX8_init_234 rfl ?_
  refine g_bipush (pc := 236) (v := 32) dX8_init_236 rfl ?_
  refine i_spell (pc := 238) (q := M.length) (j := 0) (A' := [.inl (0, 960, .inl (upd (upd (upd (upd (upd (upd (upd (upd (upd (upd (upd (upd (upd (upd (upd (upd (upd (upd (upd (upd (upd (upd (upd (upd (upd (upd (upd (upd (upd (upd (upd (upd (upd (upd (upd (upd (upd (upd (upd (upd (fun _ => 0) (0 : Int32).toNatClampNeg 105) ((0 : Int32) + 1).toNatClampNeg 114) ((0 : Int32) + 2).toNatClampNeg 111) ((0 : Int32) + 3).toNatClampNeg 110) ((0 : Int32) + 4).toNatClampNeg 115) ((0 : Int32) + 5).toNatClampNeg 32) ((0 : Int32) + 6).toNatClampNeg 57) ((0 : Int32) + 7).toNatClampNeg 32) (8 : Int32).toNatClampNeg 45) ((8 : Int32) + 1).toNatClampNeg 32) ((8 : Int32) + 2).toNatClampNeg 104) ((8 : Int32) + 3).toNatClampNeg 101) ((8 : Int32) + 4).toNatClampNeg 97) ((8 : Int32) + 5).toNatClampNeg 116) ((8 : Int32) + 6).toNatClampNeg 32) ((8 : Int32) + 7).toNatClampNeg 59) (16 : Int32).toNatClampNeg 32) ((16 : Int32) + 1).toNatClampNeg 116) ((16 : Int32) + 2).toNatClampNeg 97) ((16 : Int32) + 3).toNatClampNeg 107) ((16 : Int32) + 4).toNatClampNeg 101) ((16 : Int32) + 5).toNatClampNeg 115) ((16 : Int32) + 6).toNatClampNeg 32) ((16 : Int32) + 7).toNatClampNeg 50) (24 : Int32).toNatClampNeg 32) ((24 : Int32) + 1).toNatClampNeg 59) ((24 : Int32) + 2).toNatClampNeg 32) ((24 : Int32) + 3).toNatClampNeg 99) ((24 : Int32) + 4).toNatClampNeg 114) ((24 : Int32) + 5).toNatClampNeg 117) ((24 : Int32) + 6).toNatClampNeg 109) ((24 : Int32) + 7).toNatClampNeg 112) (32 : Int32).toNatClampNeg 108) ((32 : Int32) + 1).toNatClampNeg 101) ((32 : Int32) + 2).toNatClampNeg 115) ((32 : Int32) + 3).toNatClampNeg 32) ((32 : Int32) + 4).toNatClampNeg 52) ((32 : Int32) + 5).toNatClampNeg 32) ((32 : Int32) + 6).toNatClampNeg 59) ((32 : Int32) + 7).toNatClampNeg 32)), ia0 6, ia0 160, ia0 7, ia0 21, ia0 7, ia0 7, ia0 64, ia0 7, ia0 21, .inl (1, 4, .inl (fun _ => 0)), ia0 4, ia0 4, ia0 160]) (c_X8_spell (x := 32) (NF.at_ hk) rfl ((NF.atA (j := 0) rfl).trans rfl) (by unfold vp_in; decide) (by unfold vp_in; decide) (by unfold vp_in; decide) (by unfold vp_in; decide) (by unfold vp_in; decide) (by unfold vp_in; decide) (by unfold vp_in; decide) (by unfold vp_in; decide)) m_X8_spell ml_X8_66 (by decide) hk rfl rfl (Nat.le_of_ble_eq_true rfl) dX8_init_238 rfl rfl ?_
  refine g_aload_n (pc := 241) dX8_init_241 rfl ?_
  refine g_get (pc := 242) fl_X8_17 dX8_init_242 (NF.at_ hk) rfl ?_
  refine g_iconst (pc := 245) (v := 0) dX8_init_245 rfl ?_
  refine g_bipush (pc := 246) (v := 40) dX8_init_246 rfl ?_
  refine i_iast (pc := 248) (j := 1) (q := M.length + 1) (A' := [.inl (0, 960, .inl (upd (upd (upd (upd (upd (upd (upd (upd (upd (upd (upd (upd (upd (upd (upd (upd (upd (upd (upd (upd (upd (upd (upd (upd (upd (upd (upd (upd (upd (upd (upd (upd (upd (upd (upd (upd (upd (upd (upd (upd (fun _ => 0) (0 : Int32).toNatClampNeg 105) ((0 : Int32) + 1).toNatClampNeg 114) ((0 : Int32) + 2).toNatClampNeg 111) ((0 : Int32) + 3).toNatClampNeg 110) ((0 : Int32) + 4).toNatClampNeg 115) ((0 : Int32) + 5).toNatClampNeg 32) ((0 : Int32) + 6).toNatClampNeg 57) ((0 : Int32) + 7).toNatClampNeg 32) (8 : Int32).toNatClampNeg 45) ((8 : Int32) + 1).toNatClampNeg 32) ((8 : Int32) + 2).toNatClampNeg 104) ((8 : Int32) + 3).toNatClampNeg 101) ((8 : Int32) + 4).toNatClampNeg 97) ((8 : Int32) + 5).toNatClampNeg 116) ((8 : Int32) + 6).toNatClampNeg 32) ((8 : Int32) + 7).toNatClampNeg 59) (16 : Int32).toNatClampNeg 32) ((16 : Int32) + 1).toNatClampNeg 116) ((16 : Int32) + 2).toNatClampNeg 97) ((16 : Int32) + 3).toNatClampNeg 107) ((16 : Int32) + 4).toNatClampNeg 101) ((16 : Int32) + 5).toNatClampNeg 115) ((16 : Int32) + 6).toNatClampNeg 32) ((16 : Int32) + 7).toNatClampNeg 50) (24 : Int32).toNatClampNeg 32) ((24 : Int32) + 1).toNatClampNeg 59) ((24 : Int32) + 2).toNatClampNeg 32) ((24 : Int32) + 3).toNatClampNeg 99) ((24 : Int32) + 4).toNatClampNeg 114) ((24 : Int32) + 5).toNatClampNeg 117) ((24 : Int32) + 6).toNatClampNeg 109) ((24 : Int32) + 7).toNatClampNeg 112) (32 : Int32).toNatClampNeg 108) ((32 : Int32) + 1).toNatClampNeg 101) ((32 : Int32) + 2).toNatClampNeg 115) ((32 : Int32) + 3).toNatClampNeg 32) ((32 : Int32) + 4).toNatClampNeg 52) ((32 : Int32) + 5).toNatClampNeg 32) ((32 : Int32) + 6).toNatClampNeg 59) ((32 : Int32) + 7).toNatClampNeg 32)), .inl (0, 6, .inl (upd (fun _ => 0) 0 40)), ia0 160, ia0 7, ia0 21, ia0 7, ia0 7, ia0 64, ia0 7, ia0 21, .inl (1, 4, .inl (fun _ => 0)), ia0 4, ia0 4, ia0 160]) dX8_init_248 rfl rfl (by unfold vp_in; decide) rfl ?_
  refine g_aload_n (pc := 249) dX8_init_249 rfl ?_
  refine g_iconst (pc := 250) (v := 1) dX8_init_250 rfl ?_
  refine i_put (pc := 251) (fs' := [.int 0, .ref (M.length), .ref (M.length + 1), .int 1, .int 0, .ref (M.length + 2), .int 0, .int 5, .int 40, .ref (M.length + 3), .ref (M.length + 4), .int 0, .int 0, .int 0, .int 0, .int 0, .int 0, .int 0, .int 0, .int 0, .int 0, .int 0, .int 0, .long 0, .int 0, .int 0, .int 0, .ref (M.length + 5), .ref (M.length + 6), .int 0, .int 0, .ref (M.length + 7), .int 0, .int 0, .int 0, .int 0, .ref (M.length + 8), .ref (M.length + 9), .int (-1), .int 0, .int 0, .int 0, .ref (M.length + 10), .ref (M.length + 11), .ref (M.length + 12), .ref (M.length + 13)]) fw_X8_70 dX8_init_251 hk (Nat.le_of_ble_eq_true rfl) rfl rfl rfl ?_
  exact g_return (x := ()) (pc := 254) dX8_init_254 rfl rfl rfl
