/-! ===== the class's constructor ===== -/
section QNEW2
variable {X : Type} {emb : X → Option Value} {own : String} {cc : ByteArray} {nL : Nat} {ret : Option FieldType} {ini : Bool} {E : (Nat → Nat) → State → Prop} {d : Nat} {post : X → List AE → Prop} {kc ks pc : Nat} {L : List (Option Value)} {st : List Value} {M : List AE} {k ci : Nat} {fs : List Value} {A A' : List AE}
theorem NF.two {c2 j q : Nat} {gs : List Value} {C : List AE} (hq : M.length + j = q) : NF (NF M k ci fs A) q c2 gs C = NF M k ci fs (A.set j (.inr (c2, gs)) ++ C) := by
  show (NF M k ci fs A).set q (.inr (c2, gs)) ++ C = _
  rw [NF.setA hq, NF.more]
theorem i_new {c2 idx N q : Nat} {C : String} {T : u_T} {fs2 : List Value} (ty : Nat → FieldType) (hty : ∀ k, k < N → parseFieldDescriptor (T k).2.2.1 = some (ty k)) (hc : vwCl[c2]? = some (C, T, N)) (hcl : Cond.classLink own idx C ∈ q_tbl) (hinst : Cond.instantiable C N ∈ q_tbl) (hin1 : Cond.initialized C ∈ q_tbl) (hfs : ∀ j, j < N → defaultValue (ty j) = vp_V fs2 j) (hq2 : ∀ ad : Nat → Nat, fs2.map (q_v ad) = fs2) (hd : decode cc pc = .ok (.new idx, 3)) (hq : M.length + A.length = q) (hm : q < 100000) (hA : A ++ [.inr (c2, fs2)] = A') (kk : WG emb own cc nL ret ini E d post kc ks (pc + 3) L (.ref q :: st) (NF M k ci fs A')) : WG emb own cc nL ret ini E d post (kc + 1) (ks + N) pc L st (NF M k ci fs A) := by
  refine g_new ty hty hc hcl hinst hin1 hfs hq2 hd (by rw [NF.len, hq]; exact hm) ?_
  rw [NF.len, hq, NF.more, hA]
  exact kk
theorem i_callI {y : MethodName} {bytes : ByteArray} {maxL : Nat} {d2 mc ms q j c2 n idx : Nat} {As st0 gs : List Value} {C : List AE} (hM : CT eV y bytes maxL none d2 mc ms (.ref q :: As) (NF M k ci fs A) (fun _ M1 => M1 = NF (NF M k ci fs A) q c2 gs C)) (hm : MI y bytes maxL n) (hlk : Cond.methodLink own idx y ∈ q_tbl) (hdp : d2 + 1 ≤ d) (hn : As.length = n) (hst : st0 = As.reverse ++ .ref q :: st) (hw : (st.map fun v => v.category).sum ≤ 8) (hd : decode cc pc = .ok (.invokespecial idx, 3)) (hq : M.length + j = q) (hA : A.set j (.inr (c2, gs)) ++ C = A')
    (kk : WG emb own cc nL ret ini E d post kc ks (pc + 3) L st (NF M k ci fs A')) : WG emb own cc nL ret ini E d post (kc + mc) (ks + ms) pc L st0 (NF M k ci fs A) := by
  refine g_callI hM hm hlk hdp hn hst hw hd (fun M' h => ?_)
  rw [h, NF.two hq, hA]
  exact kk
theorem i_callIo {y : MethodName} {bytes : ByteArray} {maxL : Nat} {d2 mc ms q j c2 n idx : Nat} {As st0 gs : List Value} {C : List AE} (hM : CTo y bytes maxL d2 mc ms (.ref q :: As) (NF M k ci fs A) (fun _ M1 => M1 = NF (NF M k ci fs A) q c2 gs C)) (hm : MI y bytes maxL n) (hlk : Cond.methodLink own idx y ∈ q_tbl) (hdp : d2 + 1 ≤ d) (hn : As.length = n) (hst : st0 = As.reverse ++ .ref q :: st) (hw : (st.map fun v => v.category).sum ≤ 8) (hd : decode cc pc = .ok (.invokespecial idx, 3)) (hq : M.length + j = q) (hA : A.set j (.inr (c2, gs)) ++ C = A')
    (kk : WG emb own cc nL ret ini eO d post kc ks (pc + 3) L st (NF M k ci fs A')) : WG emb own cc nL ret ini eO d post (kc + mc) (ks + ms) pc L st0 (NF M k ci fs A) := by
  refine g_callIo hM hm hlk hdp hn hst hw hd (fun M' h => ?_)
  rw [h, NF.two hq, hA]
  exact kk
end QNEW2
theorem hf_X5 : ∀ j, j < 8 → defaultValue (tyX5 j) = vp_V [.int 0, .int 0, .int 0, .int 0, .null, .null, .null, .null] j
  | 0, _ => rfl
  | 1, _ => rfl
  | 2, _ => rfl
  | 3, _ => rfl
  | 4, _ => rfl
  | 5, _ => rfl
  | 6, _ => rfl
  | 7, _ => rfl
  | n + 8, h => absurd h (by omega)
theorem wi_X5 : Cond.instantiable "CreasedAgain$Shirt" 8 ∈ q_tbl := by decide +kernel
theorem wn_X5 : Cond.initialized "CreasedAgain$Shirt" ∈ q_tbl := by decide +kernel
theorem hf_X6 : ∀ j, j < 5 → defaultValue (tyX6 j) = vp_V [.null, .null, .null, .null, .int 0] j
  | 0, _ => rfl
  | 1, _ => rfl
  | 2, _ => rfl
  | 3, _ => rfl
  | 4, _ => rfl
  | n + 5, h => absurd h (by omega)
theorem wi_X6 : Cond.instantiable "CreasedAgain$Texts" 5 ∈ q_tbl := by decide +kernel
theorem wn_X6 : Cond.initialized "CreasedAgain$Texts" ∈ q_tbl := by decide +kernel
theorem hf_X2 : ∀ j, j < 8 → defaultValue (tyX2 j) = vp_V [.null, .int 0, .null, .int 0, .int 0, .int 0, .int 0, .int 0] j
  | 0, _ => rfl
  | 1, _ => rfl
  | 2, _ => rfl
  | 3, _ => rfl
  | 4, _ => rfl
  | 5, _ => rfl
  | 6, _ => rfl
  | 7, _ => rfl
  | n + 8, h => absurd h (by omega)
theorem wi_X2 : Cond.instantiable "CreasedAgain$Reader" 8 ∈ q_tbl := by decide +kernel
theorem wn_X2 : Cond.initialized "CreasedAgain$Reader" ∈ q_tbl := by decide +kernel
theorem hf_X0 : ∀ j, j < 10 → defaultValue (tyX0 j) = vp_V [.null, .null, .int 0, .int 0, .null, .null, .null, .null, .int 0, .int 0] j
  | 0, _ => rfl
  | 1, _ => rfl
  | 2, _ => rfl
  | 3, _ => rfl
  | 4, _ => rfl
  | 5, _ => rfl
  | 6, _ => rfl
  | 7, _ => rfl
  | 8, _ => rfl
  | 9, _ => rfl
  | n + 10, h => absurd h (by omega)
theorem wi_X0 : Cond.instantiable "CreasedAgain$Ironing" 10 ∈ q_tbl := by decide +kernel
theorem wn_X0 : Cond.initialized "CreasedAgain$Ironing" ∈ q_tbl := by decide +kernel
theorem hf_X3 : ∀ j, j < 4 → defaultValue (tyX3 j) = vp_V [.null, .null, .int 0, .int 0] j
  | 0, _ => rfl
  | 1, _ => rfl
  | 2, _ => rfl
  | 3, _ => rfl
  | n + 4, h => absurd h (by omega)
theorem wi_X3 : Cond.instantiable "CreasedAgain$Search" 4 ∈ q_tbl := by decide +kernel
theorem wn_X3 : Cond.initialized "CreasedAgain$Search" ∈ q_tbl := by decide +kernel
theorem hf_X4 : ∀ j, j < 3 → defaultValue (tyX4 j) = vp_V [.null, .null, .null] j
  | 0, _ => rfl
  | 1, _ => rfl
  | 2, _ => rfl
  | n + 3, h => absurd h (by omega)
theorem wi_X4 : Cond.instantiable "CreasedAgain$Sheets" 3 ∈ q_tbl := by decide +kernel
theorem wn_X4 : Cond.initialized "CreasedAgain$Sheets" ∈ q_tbl := by decide +kernel
theorem wc_X7_7 : Cond.classLink RX7 7 "CreasedAgain$Shirt" ∈ q_tbl := by decide +kernel
theorem wc_X7_22 : Cond.classLink RX7 22 "CreasedAgain$Texts" ∈ q_tbl := by decide +kernel
theorem wc_X7_29 : Cond.classLink RX7 29 "CreasedAgain$Reader" ∈ q_tbl := by decide +kernel
theorem wc_X7_36 : Cond.classLink RX7 36 "CreasedAgain$Ironing" ∈ q_tbl := by decide +kernel
theorem wc_X7_45 : Cond.classLink RX7 45 "CreasedAgain$Search" ∈ q_tbl := by decide +kernel
theorem wc_X7_54 : Cond.classLink RX7 54 "CreasedAgain$Sheets" ∈ q_tbl := by decide +kernel
def X7d : List AE := [.inr (6, [.null, .null, .null, .null, .null, .null, .null, .null, .int 0])]
theorem c_X7_init : CTo yX7_init cX7_init 1 2 56 1712 [.ref 0] X7d (fun _ M1 => M1 = NF X7d 0 6 [.ref 1, .ref 6, .ref 11, .ref 16, .ref 33, .ref 35, .ref 48, .ref 49, .int 0] [.inr (4, [.int 5, .int 40, .int 0, .int 0, .ref 2, .ref 3, .ref 4, .ref 5]), ia0 7, ia0 7, ia0 7, ia0 7, .inr (4, [.int 5, .int 40, .int 0, .int 0, .ref 7, .ref 8, .ref 9, .ref 10]), ia0 7, ia0 7, ia0 7, ia0 7, .inr (4, [.int 5, .int 40, .int 0, .int 0, .ref 12, .ref 13, .ref 14, .ref 15]), ia0 7, ia0 7, ia0 7, ia0 7, .inr (5, [.ref 17, .ref 24, .ref 31, .ref 32, .int 1]), ga0 17 6, .inl (0, 160, .inl (va_cpy (s_V 2) (fun _ => 0) 0 0 8)), ia0 160, ia0 160, ia0 160, ia0 160, ia0 160, ga0 24 6, .inl (0, 3, .inl (va_cpy (s_V 3) (fun _ => 0) 0 0 3)), ia0 3, ia0 3, ia0 3, ia0 3, ia0 3, ia0 6, ia0 160, .inr (1, [.ref 34, .int 0, .null, .int 0, .int 0, .int 0, .int 0, .int 0]), ia0 160, .inr (0, [.ref 16, .ref 36, .int 0, .int (-1), .ref 37, .ref 46, .ref 47, .ref 1, .int 0, .int 0]), ia0 7, ga0 37 8, ia0 7, ia0 7, ia0 7, ia0 7, ia0 7, ia0 7, ia0 7, ia0 7, ia0 8, ia0 7, .inr (2, [.ref 35, .ref 11, .int 0, .int 0]), .inr (3, [.ref 50, .ref 51, .ref 52]), .inl (0, 4, .inl (upd (upd (upd (upd (fun _ => 0) 0 (-1)) 1 (-1)) 2 (-1)) 3 (-1))), ia0 4, ga0 52 4, ia0 40, ia0 40, ia0 40, ia0 40]) := by
  refine CTo.of true (by decide) (fun _ => rfl) (L := [some (.ref 0)]) rfl (Nat.le_of_ble_eq_true rfl) ?_
  refine WG.to (NF.start (k := 0) (ci := 6) (fs := [.null, .null, .null, .null, .null, .null, .null, .null, .int 0]) rfl) ?_
  refine g_aload_n (pc := 0) dX7_init_0 rfl ?_
  refine g_objInit (pc := 1) ml_X7_1 (by decide) dX7_init_1 (Nat.le_of_ble_eq_true rfl) ?_
  refine g_aload_n (pc := 4) dX7_init_4 rfl ?_
  refine i_new (pc := 5) (kc := 55) (ks := 1704) (c2 := 4) (N := 8) (C := "CreasedAgain$Shirt") (T := TX5) (fs2 := [.int 0, .int 0, .int 0, .int 0, .null, .null, .null, .null]) (q := 1) (A' := [.inr (4, [.int 0, .int 0, .int 0, .int 0, .null, .null, .null, .null])]) tyX5 tyX5_ok rfl wc_X7_7 wi_X5 wn_X5 hf_X5 (fun _ => rfl) dX7_init_5 rfl (by decide) rfl ?_
  refine g_dup (pc := 8) dX7_init_8 rfl ?_
  refine i_callI (pc := 9) (kc := 51) (ks := 1676) (q := 1) (j := 0) (A' := [.inr (4, [.int 5, .int 40, .int 0, .int 0, .ref 2, .ref 3, .ref 4, .ref 5]), ia0 7, ia0 7, ia0 7, ia0 7]) (c_X5_init ((NF.atA (j := 0) rfl).trans rfl) (by rw [NF.len]; exact Nat.le_of_ble_eq_true rfl)) m_X5_init ml_X7_9 (by decide) rfl rfl (Nat.le_of_ble_eq_true rfl) dX7_init_9 rfl rfl ?_
  refine i_putF (pc := 12) (fs' := [.ref 1, .null, .null, .null, .null, .null, .null, .null, .int 0]) fw_X7_10 rfl dX7_init_12 (by decide) (Nat.le_of_ble_eq_true rfl) rfl rfl rfl ?_
  refine g_aload_n (pc := 15) dX7_init_15 rfl ?_
  refine i_new (pc := 16) (kc := 50) (ks := 1668) (c2 := 4) (N := 8) (C := "CreasedAgain$Shirt") (T := TX5) (fs2 := [.int 0, .int 0, .int 0, .int 0, .null, .null, .null, .null]) (q := 6) (A' := [.inr (4, [.int 5, .int 40, .int 0, .int 0, .ref 2, .ref 3, .ref 4, .ref 5]), ia0 7, ia0 7, ia0 7, ia0 7, .inr (4, [.int 0, .int 0, .int 0, .int 0, .null, .null, .null, .null])]) tyX5 tyX5_ok rfl wc_X7_7 wi_X5 wn_X5 hf_X5 (fun _ => rfl) dX7_init_16 rfl (by decide) rfl ?_
  refine g_dup (pc := 19) dX7_init_19 rfl ?_
  refine i_callI (pc := 20) (kc := 46) (ks := 1640) (q := 6) (j := 5) (A' := [.inr (4, [.int 5, .int 40, .int 0, .int 0, .ref 2, .ref 3, .ref 4, .ref 5]), ia0 7, ia0 7, ia0 7, ia0 7, .inr (4, [.int 5, .int 40, .int 0, .int 0, .ref 7, .ref 8, .ref 9, .ref 10]), ia0 7, ia0 7, ia0 7, ia0 7]) (c_X5_init ((NF.atA (j := 5) rfl).trans rfl) (by rw [NF.len]; exact Nat.le_of_ble_eq_true rfl)) m_X5_init ml_X7_9 (by decide) rfl rfl (Nat.le_of_ble_eq_true rfl) dX7_init_20 rfl rfl ?_
  refine i_putF (pc := 23) (fs' := [.ref 1, .ref 6, .null, .null, .null, .null, .null, .null, .int 0]) fw_X7_16 rfl dX7_init_23 (by decide) (Nat.le_of_ble_eq_true rfl) rfl rfl rfl ?_
  refine g_aload_n (pc := 26) dX7_init_26 rfl ?_
  refine i_new (pc := 27) (kc := 45) (ks := 1632) (c2 := 4) (N := 8) (C := "CreasedAgain$Shirt") (T := TX5) (fs2 := [.int 0, .int 0, .int 0, .int 0, .null, .null, .null, .null]) (q := 11) (A' := [.inr (4, [.int 5, .int 40, .int 0, .int 0, .ref 2, .ref 3, .ref 4, .ref 5]), ia0 7, ia0 7, ia0 7, ia0 7, .inr (4, [.int 5, .int 40, .int 0, .int 0, .ref 7, .ref 8, .ref 9, .ref 10]), ia0 7, ia0 7, ia0 7, ia0 7, .inr (4, [.int 0, .int 0, .int 0, .int 0, .null, .null, .null, .null])]) tyX5 tyX5_ok rfl wc_X7_7 wi_X5 wn_X5 hf_X5 (fun _ => rfl) dX7_init_27 rfl (by decide) rfl ?_
  refine g_dup (pc := 30) dX7_init_30 rfl ?_
  refine i_callI (pc := 31) (kc := 41) (ks := 1604) (q := 11) (j := 10) (A' := [.inr (4, [.int 5, .int 40, .int 0, .int 0, .ref 2, .ref 3, .ref 4, .ref 5]), ia0 7, ia0 7, ia0 7, ia0 7, .inr (4, [.int 5, .int 40, .int 0, .int 0, .ref 7, .ref 8, .ref 9, .ref 10]), ia0 7, ia0 7, ia0 7, ia0 7, .inr (4, [.int 5, .int 40, .int 0, .int 0, .ref 12, .ref 13, .ref 14, .ref 15]), ia0 7, ia0 7, ia0 7, ia0 7]) (c_X5_init ((NF.atA (j := 10) rfl).trans rfl) (by rw [NF.len]; exact Nat.le_of_ble_eq_true rfl)) m_X5_init ml_X7_9 (by decide) rfl rfl (Nat.le_of_ble_eq_true rfl) dX7_init_31 rfl rfl ?_
  refine i_putF (pc := 34) (fs' := [.ref 1, .ref 6, .ref 11, .null, .null, .null, .null, .null, .int 0]) fw_X7_19 rfl dX7_init_34 (by decide) (Nat.le_of_ble_eq_true rfl) rfl rfl rfl ?_
  refine g_aload_n (pc := 37) dX7_init_37 rfl ?_
  refine i_new (pc := 38) (kc := 40) (ks := 1599) (c2 := 5) (N := 5) (C := "CreasedAgain$Texts") (T := TX6) (fs2 := [.null, .null, .null, .null, .int 0]) (q := 16) (A' := [.inr (4, [.int 5, .int 40, .int 0, .int 0, .ref 2, .ref 3, .ref 4, .ref 5]), ia0 7, ia0 7, ia0 7, ia0 7, .inr (4, [.int 5, .int 40, .int 0, .int 0, .ref 7, .ref 8, .ref 9, .ref 10]), ia0 7, ia0 7, ia0 7, ia0 7, .inr (4, [.int 5, .int 40, .int 0, .int 0, .ref 12, .ref 13, .ref 14, .ref 15]), ia0 7, ia0 7, ia0 7, ia0 7, .inr (5, [.null, .null, .null, .null, .int 0])]) tyX6 tyX6_ok rfl wc_X7_22 wi_X6 wn_X6 hf_X6 (fun _ => rfl) dX7_init_38 rfl (by decide) rfl ?_
  refine g_dup (pc := 41) dX7_init_41 rfl ?_
  refine i_callIo (pc := 42) (kc := 24) (ks := 443) (q := 16) (j := 15) (A' := [.inr (4, [.int 5, .int 40, .int 0, .int 0, .ref 2, .ref 3, .ref 4, .ref 5]), ia0 7, ia0 7, ia0 7, ia0 7, .inr (4, [.int 5, .int 40, .int 0, .int 0, .ref 7, .ref 8, .ref 9, .ref 10]), ia0 7, ia0 7, ia0 7, ia0 7, .inr (4, [.int 5, .int 40, .int 0, .int 0, .ref 12, .ref 13, .ref 14, .ref 15]), ia0 7, ia0 7, ia0 7, ia0 7, .inr (5, [.ref 17, .ref 24, .ref 31, .ref 32, .int 1]), ga0 17 6, .inl (0, 160, .inl (va_cpy (s_V 2) (fun _ => 0) 0 0 8)), ia0 160, ia0 160, ia0 160, ia0 160, ia0 160, ga0 24 6, .inl (0, 3, .inl (va_cpy (s_V 3) (fun _ => 0) 0 0 3)), ia0 3, ia0 3, ia0 3, ia0 3, ia0 3, ia0 6, ia0 160]) (c_X6_init ((NF.atA (j := 15) rfl).trans rfl) (by rw [NF.len]; exact Nat.le_of_ble_eq_true rfl)) m_X6_init ml_X7_24 (by decide) rfl rfl (Nat.le_of_ble_eq_true rfl) dX7_init_42 rfl rfl ?_
  refine i_putF (pc := 45) (fs' := [.ref 1, .ref 6, .ref 11, .ref 16, .null, .null, .null, .null, .int 0]) fw_X7_25 rfl dX7_init_45 (by decide) (Nat.le_of_ble_eq_true rfl) rfl rfl rfl ?_
  refine g_aload_n (pc := 48) dX7_init_48 rfl ?_
  refine i_new (pc := 49) (kc := 23) (ks := 435) (c2 := 1) (N := 8) (C := "CreasedAgain$Reader") (T := TX2) (fs2 := [.null, .int 0, .null, .int 0, .int 0, .int 0, .int 0, .int 0]) (q := 33) (A' := [.inr (4, [.int 5, .int 40, .int 0, .int 0, .ref 2, .ref 3, .ref 4, .ref 5]), ia0 7, ia0 7, ia0 7, ia0 7, .inr (4, [.int 5, .int 40, .int 0, .int 0, .ref 7, .ref 8, .ref 9, .ref 10]), ia0 7, ia0 7, ia0 7, ia0 7, .inr (4, [.int 5, .int 40, .int 0, .int 0, .ref 12, .ref 13, .ref 14, .ref 15]), ia0 7, ia0 7, ia0 7, ia0 7, .inr (5, [.ref 17, .ref 24, .ref 31, .ref 32, .int 1]), ga0 17 6, .inl (0, 160, .inl (va_cpy (s_V 2) (fun _ => 0) 0 0 8)), ia0 160, ia0 160, ia0 160, ia0 160, ia0 160, ga0 24 6, .inl (0, 3, .inl (va_cpy (s_V 3) (fun _ => 0) 0 0 3)), ia0 3, ia0 3, ia0 3, ia0 3, ia0 3, ia0 6, ia0 160, .inr (1, [.null, .int 0, .null, .int 0, .int 0, .int 0, .int 0, .int 0])]) tyX2 tyX2_ok rfl wc_X7_29 wi_X2 wn_X2 hf_X2 (fun _ => rfl) dX7_init_49 rfl (by decide) rfl ?_
  refine g_dup (pc := 52) dX7_init_52 rfl ?_
  refine i_callI (pc := 53) (kc := 22) (ks := 275) (q := 33) (j := 32) (A' := [.inr (4, [.int 5, .int 40, .int 0, .int 0, .ref 2, .ref 3, .ref 4, .ref 5]), ia0 7, ia0 7, ia0 7, ia0 7, .inr (4, [.int 5, .int 40, .int 0, .int 0, .ref 7, .ref 8, .ref 9, .ref 10]), ia0 7, ia0 7, ia0 7, ia0 7, .inr (4, [.int 5, .int 40, .int 0, .int 0, .ref 12, .ref 13, .ref 14, .ref 15]), ia0 7, ia0 7, ia0 7, ia0 7, .inr (5, [.ref 17, .ref 24, .ref 31, .ref 32, .int 1]), ga0 17 6, .inl (0, 160, .inl (va_cpy (s_V 2) (fun _ => 0) 0 0 8)), ia0 160, ia0 160, ia0 160, ia0 160, ia0 160, ga0 24 6, .inl (0, 3, .inl (va_cpy (s_V 3) (fun _ => 0) 0 0 3)), ia0 3, ia0 3, ia0 3, ia0 3, ia0 3, ia0 6, ia0 160, .inr (1, [.ref 34, .int 0, .null, .int 0, .int 0, .int 0, .int 0, .int 0]), ia0 160]) (c_X2_init ((NF.atA (j := 32) rfl).trans rfl) (by rw [NF.len]; exact Nat.le_of_ble_eq_true rfl)) m_X2_init ml_X7_31 (by decide) rfl rfl (Nat.le_of_ble_eq_true rfl) dX7_init_53 rfl rfl ?_
  refine i_putF (pc := 56) (fs' := [.ref 1, .ref 6, .ref 11, .ref 16, .ref 33, .null, .null, .null, .int 0]) fw_X7_32 rfl dX7_init_56 (by decide) (Nat.le_of_ble_eq_true rfl) rfl rfl rfl ?_
  refine g_aload_n (pc := 59) dX7_init_59 rfl ?_
  refine i_new (pc := 60) (kc := 21) (ks := 265) (c2 := 0) (N := 10) (C := "CreasedAgain$Ironing") (T := TX0) (fs2 := [.null, .null, .int 0, .int 0, .null, .null, .null, .null, .int 0, .int 0]) (q := 35) (A' := [.inr (4, [.int 5, .int 40, .int 0, .int 0, .ref 2, .ref 3, .ref 4, .ref 5]), ia0 7, ia0 7, ia0 7, ia0 7, .inr (4, [.int 5, .int 40, .int 0, .int 0, .ref 7, .ref 8, .ref 9, .ref 10]), ia0 7, ia0 7, ia0 7, ia0 7, .inr (4, [.int 5, .int 40, .int 0, .int 0, .ref 12, .ref 13, .ref 14, .ref 15]), ia0 7, ia0 7, ia0 7, ia0 7, .inr (5, [.ref 17, .ref 24, .ref 31, .ref 32, .int 1]), ga0 17 6, .inl (0, 160, .inl (va_cpy (s_V 2) (fun _ => 0) 0 0 8)), ia0 160, ia0 160, ia0 160, ia0 160, ia0 160, ga0 24 6, .inl (0, 3, .inl (va_cpy (s_V 3) (fun _ => 0) 0 0 3)), ia0 3, ia0 3, ia0 3, ia0 3, ia0 3, ia0 6, ia0 160, .inr (1, [.ref 34, .int 0, .null, .int 0, .int 0, .int 0, .int 0, .int 0]), ia0 160, .inr (0, [.null, .null, .int 0, .int 0, .null, .null, .null, .null, .int 0, .int 0])]) tyX0 tyX0_ok rfl wc_X7_36 wi_X0 wn_X0 hf_X0 (fun _ => rfl) dX7_init_60 rfl (by decide) rfl ?_
  refine g_dup (pc := 63) dX7_init_63 rfl ?_
  refine g_aload_n (pc := 64) dX7_init_64 rfl ?_
  refine g_get (pc := 65) fl_X7_25 dX7_init_65 (NF.at_ (by decide)) rfl ?_
  refine g_aload_n (pc := 68) dX7_init_68 rfl ?_
  refine g_get (pc := 69) fl_X7_10 dX7_init_69 (NF.at_ (by decide)) rfl ?_
  refine i_callIo (pc := 72) (kc := 9) (ks := 179) (q := 35) (j := 34) (A' := [.inr (4, [.int 5, .int 40, .int 0, .int 0, .ref 2, .ref 3, .ref 4, .ref 5]), ia0 7, ia0 7, ia0 7, ia0 7, .inr (4, [.int 5, .int 40, .int 0, .int 0, .ref 7, .ref 8, .ref 9, .ref 10]), ia0 7, ia0 7, ia0 7, ia0 7, .inr (4, [.int 5, .int 40, .int 0, .int 0, .ref 12, .ref 13, .ref 14, .ref 15]), ia0 7, ia0 7, ia0 7, ia0 7, .inr (5, [.ref 17, .ref 24, .ref 31, .ref 32, .int 1]), ga0 17 6, .inl (0, 160, .inl (va_cpy (s_V 2) (fun _ => 0) 0 0 8)), ia0 160, ia0 160, ia0 160, ia0 160, ia0 160, ga0 24 6, .inl (0, 3, .inl (va_cpy (s_V 3) (fun _ => 0) 0 0 3)), ia0 3, ia0 3, ia0 3, ia0 3, ia0 3, ia0 6, ia0 160, .inr (1, [.ref 34, .int 0, .null, .int 0, .int 0, .int 0, .int 0, .int 0]), ia0 160, .inr (0, [.ref 16, .ref 36, .int 0, .int (-1), .ref 37, .ref 46, .ref 47, .ref 1, .int 0, .int 0]), ia0 7, ga0 37 8, ia0 7, ia0 7, ia0 7, ia0 7, ia0 7, ia0 7, ia0 7, ia0 7, ia0 8, ia0 7]) (c_X0_init ((NF.atA (j := 34) rfl).trans rfl) (by rw [NF.len]; exact Nat.le_of_ble_eq_true rfl)) m_X0_init ml_X7_38 (by decide) rfl rfl (Nat.le_of_ble_eq_true rfl) dX7_init_72 rfl rfl ?_
  refine i_putF (pc := 75) (fs' := [.ref 1, .ref 6, .ref 11, .ref 16, .ref 33, .ref 35, .null, .null, .int 0]) fw_X7_41 rfl dX7_init_75 (by decide) (Nat.le_of_ble_eq_true rfl) rfl rfl rfl ?_
  refine g_aload_n (pc := 78) dX7_init_78 rfl ?_
  refine i_new (pc := 79) (kc := 8) (ks := 175) (c2 := 2) (N := 4) (C := "CreasedAgain$Search") (T := TX3) (fs2 := [.null, .null, .int 0, .int 0]) (q := 48) (A' := [.inr (4, [.int 5, .int 40, .int 0, .int 0, .ref 2, .ref 3, .ref 4, .ref 5]), ia0 7, ia0 7, ia0 7, ia0 7, .inr (4, [.int 5, .int 40, .int 0, .int 0, .ref 7, .ref 8, .ref 9, .ref 10]), ia0 7, ia0 7, ia0 7, ia0 7, .inr (4, [.int 5, .int 40, .int 0, .int 0, .ref 12, .ref 13, .ref 14, .ref 15]), ia0 7, ia0 7, ia0 7, ia0 7, .inr (5, [.ref 17, .ref 24, .ref 31, .ref 32, .int 1]), ga0 17 6, .inl (0, 160, .inl (va_cpy (s_V 2) (fun _ => 0) 0 0 8)), ia0 160, ia0 160, ia0 160, ia0 160, ia0 160, ga0 24 6, .inl (0, 3, .inl (va_cpy (s_V 3) (fun _ => 0) 0 0 3)), ia0 3, ia0 3, ia0 3, ia0 3, ia0 3, ia0 6, ia0 160, .inr (1, [.ref 34, .int 0, .null, .int 0, .int 0, .int 0, .int 0, .int 0]), ia0 160, .inr (0, [.ref 16, .ref 36, .int 0, .int (-1), .ref 37, .ref 46, .ref 47, .ref 1, .int 0, .int 0]), ia0 7, ga0 37 8, ia0 7, ia0 7, ia0 7, ia0 7, ia0 7, ia0 7, ia0 7, ia0 7, ia0 8, ia0 7, .inr (2, [.null, .null, .int 0, .int 0])]) tyX3 tyX3_ok rfl wc_X7_45 wi_X3 wn_X3 hf_X3 (fun _ => rfl) dX7_init_79 rfl (by decide) rfl ?_
  refine g_dup (pc := 82) dX7_init_82 rfl ?_
  refine g_aload_n (pc := 83) dX7_init_83 rfl ?_
  refine g_get (pc := 84) fl_X7_41 dX7_init_84 (NF.at_ (by decide)) rfl ?_
  refine g_aload_n (pc := 87) dX7_init_87 rfl ?_
  refine g_get (pc := 88) fl_X7_19 dX7_init_88 (NF.at_ (by decide)) rfl ?_
  refine i_callI (pc := 91) (kc := 8) (ks := 175) (q := 48) (j := 47) (A' := [.inr (4, [.int 5, .int 40, .int 0, .int 0, .ref 2, .ref 3, .ref 4, .ref 5]), ia0 7, ia0 7, ia0 7, ia0 7, .inr (4, [.int 5, .int 40, .int 0, .int 0, .ref 7, .ref 8, .ref 9, .ref 10]), ia0 7, ia0 7, ia0 7, ia0 7, .inr (4, [.int 5, .int 40, .int 0, .int 0, .ref 12, .ref 13, .ref 14, .ref 15]), ia0 7, ia0 7, ia0 7, ia0 7, .inr (5, [.ref 17, .ref 24, .ref 31, .ref 32, .int 1]), ga0 17 6, .inl (0, 160, .inl (va_cpy (s_V 2) (fun _ => 0) 0 0 8)), ia0 160, ia0 160, ia0 160, ia0 160, ia0 160, ga0 24 6, .inl (0, 3, .inl (va_cpy (s_V 3) (fun _ => 0) 0 0 3)), ia0 3, ia0 3, ia0 3, ia0 3, ia0 3, ia0 6, ia0 160, .inr (1, [.ref 34, .int 0, .null, .int 0, .int 0, .int 0, .int 0, .int 0]), ia0 160, .inr (0, [.ref 16, .ref 36, .int 0, .int (-1), .ref 37, .ref 46, .ref 47, .ref 1, .int 0, .int 0]), ia0 7, ga0 37 8, ia0 7, ia0 7, ia0 7, ia0 7, ia0 7, ia0 7, ia0 7, ia0 7, ia0 8, ia0 7, .inr (2, [.ref 35, .ref 11, .int 0, .int 0])]) (c_X3_init ((NF.atA (j := 47) rfl).trans rfl) (by rw [NF.len]; exact Nat.le_of_ble_eq_true rfl)) m_X3_init ml_X7_47 (by decide) rfl rfl (Nat.le_of_ble_eq_true rfl) dX7_init_91 rfl rfl ?_
  refine i_putF (pc := 94) (fs' := [.ref 1, .ref 6, .ref 11, .ref 16, .ref 33, .ref 35, .ref 48, .null, .int 0]) fw_X7_50 rfl dX7_init_94 (by decide) (Nat.le_of_ble_eq_true rfl) rfl rfl rfl ?_
  refine g_aload_n (pc := 97) dX7_init_97 rfl ?_
  refine i_new (pc := 98) (kc := 7) (ks := 172) (c2 := 3) (N := 3) (C := "CreasedAgain$Sheets") (T := TX4) (fs2 := [.null, .null, .null]) (q := 49) (A' := [.inr (4, [.int 5, .int 40, .int 0, .int 0, .ref 2, .ref 3, .ref 4, .ref 5]), ia0 7, ia0 7, ia0 7, ia0 7, .inr (4, [.int 5, .int 40, .int 0, .int 0, .ref 7, .ref 8, .ref 9, .ref 10]), ia0 7, ia0 7, ia0 7, ia0 7, .inr (4, [.int 5, .int 40, .int 0, .int 0, .ref 12, .ref 13, .ref 14, .ref 15]), ia0 7, ia0 7, ia0 7, ia0 7, .inr (5, [.ref 17, .ref 24, .ref 31, .ref 32, .int 1]), ga0 17 6, .inl (0, 160, .inl (va_cpy (s_V 2) (fun _ => 0) 0 0 8)), ia0 160, ia0 160, ia0 160, ia0 160, ia0 160, ga0 24 6, .inl (0, 3, .inl (va_cpy (s_V 3) (fun _ => 0) 0 0 3)), ia0 3, ia0 3, ia0 3, ia0 3, ia0 3, ia0 6, ia0 160, .inr (1, [.ref 34, .int 0, .null, .int 0, .int 0, .int 0, .int 0, .int 0]), ia0 160, .inr (0, [.ref 16, .ref 36, .int 0, .int (-1), .ref 37, .ref 46, .ref 47, .ref 1, .int 0, .int 0]), ia0 7, ga0 37 8, ia0 7, ia0 7, ia0 7, ia0 7, ia0 7, ia0 7, ia0 7, ia0 7, ia0 8, ia0 7, .inr (2, [.ref 35, .ref 11, .int 0, .int 0]), .inr (3, [.null, .null, .null])]) tyX4 tyX4_ok rfl wc_X7_54 wi_X4 wn_X4 hf_X4 (fun _ => rfl) dX7_init_98 rfl (by decide) rfl ?_
  refine g_dup (pc := 101) dX7_init_101 rfl ?_
  refine i_callIo (pc := 102) (kc := 0) (ks := 0) (q := 49) (j := 48) (A' := [.inr (4, [.int 5, .int 40, .int 0, .int 0, .ref 2, .ref 3, .ref 4, .ref 5]), ia0 7, ia0 7, ia0 7, ia0 7, .inr (4, [.int 5, .int 40, .int 0, .int 0, .ref 7, .ref 8, .ref 9, .ref 10]), ia0 7, ia0 7, ia0 7, ia0 7, .inr (4, [.int 5, .int 40, .int 0, .int 0, .ref 12, .ref 13, .ref 14, .ref 15]), ia0 7, ia0 7, ia0 7, ia0 7, .inr (5, [.ref 17, .ref 24, .ref 31, .ref 32, .int 1]), ga0 17 6, .inl (0, 160, .inl (va_cpy (s_V 2) (fun _ => 0) 0 0 8)), ia0 160, ia0 160, ia0 160, ia0 160, ia0 160, ga0 24 6, .inl (0, 3, .inl (va_cpy (s_V 3) (fun _ => 0) 0 0 3)), ia0 3, ia0 3, ia0 3, ia0 3, ia0 3, ia0 6, ia0 160, .inr (1, [.ref 34, .int 0, .null, .int 0, .int 0, .int 0, .int 0, .int 0]), ia0 160, .inr (0, [.ref 16, .ref 36, .int 0, .int (-1), .ref 37, .ref 46, .ref 47, .ref 1, .int 0, .int 0]), ia0 7, ga0 37 8, ia0 7, ia0 7, ia0 7, ia0 7, ia0 7, ia0 7, ia0 7, ia0 7, ia0 8, ia0 7, .inr (2, [.ref 35, .ref 11, .int 0, .int 0]), .inr (3, [.ref 50, .ref 51, .ref 52]), .inl (0, 4, .inl (upd (upd (upd (upd (fun _ => 0) 0 (-1)) 1 (-1)) 2 (-1)) 3 (-1))), ia0 4, ga0 52 4, ia0 40, ia0 40, ia0 40, ia0 40]) (c_X4_init ((NF.atA (j := 48) rfl).trans rfl) (by rw [NF.len]; exact Nat.le_of_ble_eq_true rfl)) m_X4_init ml_X7_56 (by decide) rfl rfl (Nat.le_of_ble_eq_true rfl) dX7_init_102 rfl rfl ?_
  refine i_putF (pc := 105) (fs' := [.ref 1, .ref 6, .ref 11, .ref 16, .ref 33, .ref 35, .ref 48, .ref 49, .int 0]) fw_X7_57 rfl dX7_init_105 (by decide) (Nat.le_of_ble_eq_true rfl) rfl rfl rfl ?_
  exact g_return (x := ()) (pc := 108) dX7_init_108 rfl rfl rfl
