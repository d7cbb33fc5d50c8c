/-! ===== constructors: one object among the cells, new cells behind them ===== -/
/-- the cells M, but the object k with these fields, and A behind -/
def NF (M : List AE) (k ci : Nat) (fs : List Value) (A : List AE) : List AE := M.set k (.inr (ci, fs)) ++ A
theorem NF.len {M : List AE} {k ci : Nat} {fs : List Value} {A : List AE} : (NF M k ci fs A).length = M.length + A.length := by
  unfold NF
  rw [List.length_append, List.length_set]
theorem NF.at_ {M : List AE} {k ci : Nat} {fs : List Value} {A : List AE} (hk : k < M.length) : (NF M k ci fs A)[k]? = some (.inr (ci, fs)) := by
  unfold NF
  rw [List.getElem?_append_left (by rw [List.length_set]; exact hk), List.getElem?_set, if_pos rfl, if_pos hk]
theorem NF.put {M : List AE} {k ci : Nat} {fs gs : List Value} {A : List AE} (hk : k < M.length) : (NF M k ci fs A).set k (.inr (ci, gs)) = NF M k ci gs A := by
  apply List.ext_getElem?
  intro i
  rw [List.getElem?_set, NF.len]
  by_cases h : k = i
  · subst h
    rw [if_pos rfl, if_pos (by omega), NF.at_ hk]
  · rw [if_neg h]
    unfold NF
    by_cases hi : i < M.length
    · rw [List.getElem?_append_left (by rw [List.length_set]; exact hi), List.getElem?_append_left (by rw [List.length_set]; exact hi), List.getElem?_set, List.getElem?_set, if_neg h, if_neg h]
    · rw [List.getElem?_append_right (by rw [List.length_set]; omega), List.getElem?_append_right (by rw [List.length_set]; omega), List.length_set, List.length_set]
theorem NF.more {M : List AE} {k ci : Nat} {fs : List Value} {A C : List AE} : NF M k ci fs A ++ C = NF M k ci fs (A ++ C) := by
  unfold NF
  rw [List.append_assoc]
theorem NF.start {M : List AE} {k ci : Nat} {fs : List Value} (he : M[k]? = some (.inr (ci, fs))) : M = NF M k ci fs [] := by
  unfold NF
  rw [List.append_nil]
  apply List.ext_getElem?
  intro i
  rw [List.getElem?_set]
  by_cases h : k = i
  · subst h
    rw [if_pos rfl, if_pos (List.getElem?_eq_some_iff.mp he).1, he]
  · rw [if_neg h]
/-- an array of n noughts -/
abbrev ia0 (n : Nat) : AE := .inl (0, n, .inl (fun _ => 0))
abbrev ga0 (q n : Nat) : AE := .inl (2, n, .inr (.inr (.inr (.inr (fun i => if i < n then some (q + 1 + i) else none)))))
section QNF
variable {X : Type} {emb : X → Option Value} {own : String} {cc : ByteArray} {nL : Nat} {ret : Option FieldType} {ini : Bool} {E : (Nat → Nat) → State → Prop} {d : Nat} {post : X → List AE → Prop} {kc ks pc : Nat} {L : List (Option Value)} {st : List Value} {M : List AE} {k ci : Nat} {fs fs' : List Value} {A A' : List AE}
theorem WG.to {M' : List AE} (h : M = M') (kk : WG emb own cc nL ret ini E d post kc ks pc L st M') : WG emb own cc nL ret ini E d post kc ks pc L st M := by
  rw [h]
  exact kk
theorem i_put {idx j : Nat} {ty : FieldType} {v : Value} (fl : FW own idx ci j ty false) (hd : decode cc pc = .ok (.putfield idx, 3)) (hk : k < M.length) (hj : j < fs.length) (hn : narrow ty v = v) (hf : fits ty v = true) (hs : fs.set j v = fs') (kk : WG emb own cc nL ret ini E d post kc ks (pc + 3) L st (NF M k ci fs' A)) : WG emb own cc nL ret ini E d post kc ks pc L (v :: .ref k :: st) (NF M k ci fs A) := by
  refine g_put fl hd (NF.at_ hk) hj hn hf ?_
  rw [NF.put hk, hs]
  exact kk
theorem i_putF {idx j : Nat} {ty : FieldType} {v : Value} (fl : FW own idx ci j ty true) (hI : ini = true) (hd : decode cc pc = .ok (.putfield idx, 3)) (hk : k < M.length) (hj : j < fs.length) (hn : narrow ty v = v) (hf : fits ty v = true) (hs : fs.set j v = fs') (kk : WG emb own cc nL ret ini E d post kc ks (pc + 3) L st (NF M k ci fs' A)) : WG emb own cc nL ret ini E d post kc ks pc L (v :: .ref k :: st) (NF M k ci fs A) := by
  refine g_putF fl hI hd (NF.at_ hk) hj hn hf ?_
  rw [NF.put hk, hs]
  exact kk
theorem i_newi {n : Int32} {N q : Nat} (hd : decode cc pc = .ok (.newarray .int, 2)) (hn : ¬ n < 0) (hN : n.toNatClampNeg = N) (hb1 : N * 4 ≤ 536870912) (hq : M.length + A.length = q) (hm : q < 100000) (hA : A ++ [ia0 N] = A') (kk : WG emb own cc nL ret ini E d post kc ks (pc + 2) L (.ref q :: st) (NF M k ci fs A')) : WG emb own cc nL ret ini E d post (kc + 1) (ks + N) pc L (.int n :: st) (NF M k ci fs A) := by
  refine g_newai hd hn hN hb1 (by rw [NF.len, hq]; exact hm) ?_
  rw [NF.len, hq, NF.more, hA]
  exact kk
theorem i_newz {n : Int32} {N q : Nat} (hd : decode cc pc = .ok (.newarray .boolean, 2)) (hn : ¬ n < 0) (hN : n.toNatClampNeg = N) (hb1 : N * 4 ≤ 536870912) (hq : M.length + A.length = q) (hm : q < 100000) (hA : A ++ [.inl (1, N, .inl (fun _ => 0))] = A') (kk : WG emb own cc nL ret ini E d post kc ks (pc + 2) L (.ref q :: st) (NF M k ci fs A')) : WG emb own cc nL ret ini E d post (kc + 1) (ks + N) pc L (.int n :: st) (NF M k ci fs A) := by
  refine g_newaz hd hn hN hb1 (by rw [NF.len, hq]; exact hm) ?_
  rw [NF.len, hq, NF.more, hA]
  exact kk
theorem i_mna {idx : Nat} {n k9 : Int32} {N K q : Nat} (hcl : Cond.classLink own idx "[[I" ∈ q_tbl) (hd : decode cc pc = .ok (.multianewarray idx 2, 4)) (hn : ¬ n < 0) (hk : ¬ k9 < 0) (hN : n.toNatClampNeg = N) (hK9 : k9.toNatClampNeg = K) (hb1 : N * 4 ≤ 536870912) (hb2 : K * 4 ≤ 536870912) (hq : M.length + A.length = q) (hm : q + 1 + N ≤ 100000) (hA : (A ++ [ga0 q N]) ++ List.replicate N (ia0 K) = A') (kk : WG emb own cc nL ret ini eO d post kc ks (pc + 4) L (.ref q :: st) (NF M k ci fs A')) : WG emb own cc nL ret ini eO d post (kc + (1 + N)) (ks + (N + N * K)) pc L (.int k9 :: .int n :: st) (NF M k ci fs A) := by
  refine g_mna hcl hd hn hk hN hK9 hb1 hb2 (by rw [NF.len, hq]; exact hm) ?_
  rw [NF.len, hq, NF.more, NF.more, hA]
  exact kk
end QNF
theorem c_X5_init {M : List AE} {k : Nat} (he : M[k]? = some (.inr (4, [.int 0, .int 0, .int 0, .int 0, .null, .null, .null, .null]))) (hm : M.length < 90000) : CT eV yX5_init cX5_init 1 none 1 4 28 [.ref k] M (fun _ M1 => M1 = NF M k 4 [.int 5, .int 40, .int 0, .int 0, .ref (M.length), .ref (M.length + 1), .ref (M.length + 2), .ref (M.length + 3)] [ia0 7, ia0 7, ia0 7, ia0 7]) := by
  have hk : k < M.length := (List.getElem?_eq_some_iff.mp he).1
  refine CT.of true (by decide) (fun _ => rfl) (L := [some (.ref k)]) rfl (Nat.le_of_ble_eq_true rfl) ?_
  refine WG.to (NF.start he) ?_
  refine g_aload_n (pc := 0) dX5_init_0 rfl ?_
  refine g_objInit (pc := 1) ml_X5_3 (by decide) dX5_init_1 (Nat.le_of_ble_eq_true rfl) ?_
  refine g_aload_n (pc := 4) dX5_init_4 rfl ?_
  refine g_iconst (pc := 5) (v := 5) dX5_init_5 rfl ?_
  refine i_put (pc := 6) (fs' := [.int 5, .int 0, .int 0, .int 0, .null, .null, .null, .null]) fw_X5_9 dX5_init_6 hk (Nat.le_of_ble_eq_true rfl) rfl rfl rfl ?_
  refine g_aload_n (pc := 9) dX5_init_9 rfl ?_
  refine g_bipush (pc := 10) (v := 40) dX5_init_10 rfl ?_
  refine i_put (pc := 12) (fs' := [.int 5, .int 40, .int 0, .int 0, .null, .null, .null, .null]) fw_X5_15 dX5_init_12 hk (Nat.le_of_ble_eq_true rfl) rfl rfl rfl ?_
  refine g_aload_n (pc := 15) dX5_init_15 rfl ?_
  refine g_bipush (pc := 16) (v := 7) dX5_init_16 rfl ?_
  refine i_newi (pc := 18) (kc := 3) (ks := 21) (N := 7) (q := M.length) (A' := [ia0 7]) dX5_init_18 (by decide) (by decide) (by decide) rfl (by omega) rfl ?_
  refine i_putF (pc := 20) (fs' := [.int 5, .int 40, .int 0, .int 0, .ref (M.length), .null, .null, .null]) fw_X5_18 rfl dX5_init_20 hk (Nat.le_of_ble_eq_true rfl) rfl rfl rfl ?_
  refine g_aload_n (pc := 23) dX5_init_23 rfl ?_
  refine g_bipush (pc := 24) (v := 7) dX5_init_24 rfl ?_
  refine i_newi (pc := 26) (kc := 2) (ks := 14) (N := 7) (q := M.length + 1) (A' := [ia0 7, ia0 7]) dX5_init_26 (by decide) (by decide) (by decide) rfl (by omega) rfl ?_
  refine i_putF (pc := 28) (fs' := [.int 5, .int 40, .int 0, .int 0, .ref (M.length), .ref (M.length + 1), .null, .null]) fw_X5_22 rfl dX5_init_28 hk (Nat.le_of_ble_eq_true rfl) rfl rfl rfl ?_
  refine g_aload_n (pc := 31) dX5_init_31 rfl ?_
  refine g_bipush (pc := 32) (v := 7) dX5_init_32 rfl ?_
  refine i_newi (pc := 34) (kc := 1) (ks := 7) (N := 7) (q := M.length + 2) (A' := [ia0 7, ia0 7, ia0 7]) dX5_init_34 (by decide) (by decide) (by decide) rfl (by omega) rfl ?_
  refine i_putF (pc := 36) (fs' := [.int 5, .int 40, .int 0, .int 0, .ref (M.length), .ref (M.length + 1), .ref (M.length + 2), .null]) fw_X5_25 rfl dX5_init_36 hk (Nat.le_of_ble_eq_true rfl) rfl rfl rfl ?_
  refine g_aload_n (pc := 39) dX5_init_39 rfl ?_
  refine g_bipush (pc := 40) (v := 7) dX5_init_40 rfl ?_
  refine i_newi (pc := 42) (kc := 0) (ks := 0) (N := 7) (q := M.length + 3) (A' := [ia0 7, ia0 7, ia0 7, ia0 7]) dX5_init_42 (by decide) (by decide) (by decide) rfl (by omega) rfl ?_
  refine i_putF (pc := 44) (fs' := [.int 5, .int 40, .int 0, .int 0, .ref (M.length), .ref (M.length + 1), .ref (M.length + 2), .ref (M.length + 3)]) fw_X5_28 rfl dX5_init_44 hk (Nat.le_of_ble_eq_true rfl) rfl rfl rfl ?_
  exact g_return (x := ()) (pc := 47) dX5_init_47 rfl rfl rfl
theorem c_X2_init {M : List AE} {k : Nat} (he : M[k]? = some (.inr (1, [.null, .int 0, .null, .int 0, .int 0, .int 0, .int 0, .int 0]))) (hm : M.length < 90000) : CT eV yX2_init cX2_init 1 none 1 1 160 [.ref k] M (fun _ M1 => M1 = NF M k 1 [.ref (M.length), .int 0, .null, .int 0, .int 0, .int 0, .int 0, .int 0] [ia0 160]) := by
  have hk : k < M.length := (List.getElem?_eq_some_iff.mp he).1
  refine CT.of true (by decide) (fun _ => rfl) (L := [some (.ref k)]) rfl (Nat.le_of_ble_eq_true rfl) ?_
  refine WG.to (NF.start he) ?_
  refine g_aload_n (pc := 0) dX2_init_0 rfl ?_
  refine g_objInit (pc := 1) ml_X2_3 (by decide) dX2_init_1 (Nat.le_of_ble_eq_true rfl) ?_
  refine g_aload_n (pc := 4) dX2_init_4 rfl ?_
  refine g_sipush (pc := 5) (v := 160) dX2_init_5 rfl ?_
  refine i_newi (pc := 8) (kc := 0) (ks := 0) (N := 160) (q := M.length) (A' := [ia0 160]) dX2_init_8 (by decide) (by decide) (by decide) rfl (by omega) rfl ?_
  refine i_putF (pc := 10) (fs' := [.ref (M.length), .int 0, .null, .int 0, .int 0, .int 0, .int 0, .int 0]) fw_X2_9 rfl dX2_init_10 hk (Nat.le_of_ble_eq_true rfl) rfl rfl rfl ?_
  exact g_return (x := ()) (pc := 13) dX2_init_13 rfl rfl rfl
theorem c_X3_init {M : List AE} {k a b : Nat} (he : M[k]? = some (.inr (2, [.null, .null, .int 0, .int 0]))) (hm : M.length < 90000) : CT eV yX3_init cX3_init 3 none 1 0 0 [.ref k, .ref a, .ref b] M (fun _ M1 => M1 = NF M k 2 [.ref a, .ref b, .int 0, .int 0] []) := by
  have hk : k < M.length := (List.getElem?_eq_some_iff.mp he).1
  refine CT.of true (by decide) (fun _ => rfl) (L := [some (.ref k), some (.ref a), some (.ref b)]) rfl (Nat.le_of_ble_eq_true rfl) ?_
  refine WG.to (NF.start he) ?_
  refine g_aload_n (pc := 0) dX3_init_0 rfl ?_
  refine g_objInit (pc := 1) ml_X3_3 (by decide) dX3_init_1 (Nat.le_of_ble_eq_true rfl) ?_
  refine g_aload_n (pc := 4) dX3_init_4 rfl ?_
  refine g_aload_n (pc := 5) dX3_init_5 rfl ?_
  refine i_putF (pc := 6) (fs' := [.ref a, .null, .int 0, .int 0]) fw_X3_9 rfl dX3_init_6 hk (Nat.le_of_ble_eq_true rfl) rfl rfl rfl ?_
  refine g_aload_n (pc := 9) dX3_init_9 rfl ?_
  refine g_aload_n (pc := 10) dX3_init_10 rfl ?_
  refine i_putF (pc := 11) (fs' := [.ref a, .ref b, .int 0, .int 0]) fw_X3_15 rfl dX3_init_11 hk (Nat.le_of_ble_eq_true rfl) rfl rfl rfl ?_
  exact g_return (x := ()) (pc := 14) dX3_init_14 rfl rfl rfl
theorem wc_X0_19 : Cond.classLink RX0 19 "[[I" ∈ q_tbl := by decide +kernel
theorem wc_X4_16 : Cond.classLink RX4 16 "[[I" ∈ q_tbl := by decide +kernel
theorem wc_X6_9 : Cond.classLink RX6 9 "[[I" ∈ q_tbl := by decide +kernel
theorem c_X0_init {M : List AE} {k a b : Nat} (he : M[k]? = some (.inr (0, [.null, .null, .int 0, .int 0, .null, .null, .null, .null, .int 0, .int 0]))) (hm : M.length < 90000) : CTo yX0_init cX0_init 3  1 12 86 [.ref k, .ref a, .ref b] M (fun _ M1 => M1 = NF M k 0 [.ref a, .ref (M.length), .int 0, .int (-1), .ref (M.length + 1), .ref (M.length + 10), .ref (M.length + 11), .ref b, .int 0, .int 0] [ia0 7, ga0 (M.length + 1) 8, ia0 7, ia0 7, ia0 7, ia0 7, ia0 7, ia0 7, ia0 7, ia0 7, ia0 8, ia0 7]) := by
  have hk : k < M.length := (List.getElem?_eq_some_iff.mp he).1
  refine CTo.of true (by decide) (fun _ => rfl) (L := [some (.ref k), some (.ref a), some (.ref b)]) rfl (Nat.le_of_ble_eq_true rfl) ?_
  refine WG.to (NF.start he) ?_
  refine g_aload_n (pc := 0) dX0_init_0 rfl ?_
  refine g_objInit (pc := 1) ml_X0_3 (by decide) dX0_init_1 (Nat.le_of_ble_eq_true rfl) ?_
  refine g_aload_n (pc := 4) dX0_init_4 rfl ?_
  refine g_bipush (pc := 5) (v := 7) dX0_init_5 rfl ?_
  refine i_newi (pc := 7) (kc := 11) (ks := 79) (N := 7) (q := M.length) (A' := [ia0 7]) dX0_init_7 (by decide) (by decide) (by decide) rfl (by omega) rfl ?_
  refine i_putF (pc := 9) (fs' := [.null, .ref (M.length), .int 0, .int 0, .null, .null, .null, .null, .int 0, .int 0]) fw_X0_9 rfl dX0_init_9 hk (Nat.le_of_ble_eq_true rfl) rfl rfl rfl ?_
  refine g_aload_n (pc := 12) dX0_init_12 rfl ?_
  refine g_iconst (pc := 13) (v := -1) dX0_init_13 rfl ?_
  refine i_put (pc := 14) (fs' := [.null, .ref (M.length), .int 0, .int (-1), .null, .null, .null, .null, .int 0, .int 0]) fw_X0_15 dX0_init_14 hk (Nat.le_of_ble_eq_true rfl) rfl rfl rfl ?_
  refine g_aload_n (pc := 17) dX0_init_17 rfl ?_
  refine g_bipush (pc := 18) (v := 8) dX0_init_18 rfl ?_
  refine g_bipush (pc := 20) (v := 7) dX0_init_20 rfl ?_
  refine i_mna (pc := 22) (kc := 2) (ks := 15) (N := 8) (K := 7) (q := M.length + 1) (A' := [ia0 7, ga0 (M.length + 1) 8, ia0 7, ia0 7, ia0 7, ia0 7, ia0 7, ia0 7, ia0 7, ia0 7]) wc_X0_19 dX0_init_22 (by decide) (by decide) (by decide) (by decide) (by decide) (by decide) rfl (by omega) rfl ?_
  refine i_putF (pc := 26) (fs' := [.null, .ref (M.length), .int 0, .int (-1), .ref (M.length + 1), .null, .null, .null, .int 0, .int 0]) fw_X0_21 rfl dX0_init_26 hk (Nat.le_of_ble_eq_true rfl) rfl rfl rfl ?_
  refine g_aload_n (pc := 29) dX0_init_29 rfl ?_
  refine g_bipush (pc := 30) (v := 8) dX0_init_30 rfl ?_
  refine i_newi (pc := 32) (kc := 1) (ks := 7) (N := 8) (q := M.length + 10) (A' := [ia0 7, ga0 (M.length + 1) 8, ia0 7, ia0 7, ia0 7, ia0 7, ia0 7, ia0 7, ia0 7, ia0 7, ia0 8]) dX0_init_32 (by decide) (by decide) (by decide) rfl (by omega) rfl ?_
  refine i_putF (pc := 34) (fs' := [.null, .ref (M.length), .int 0, .int (-1), .ref (M.length + 1), .ref (M.length + 10), .null, .null, .int 0, .int 0]) fw_X0_24 rfl dX0_init_34 hk (Nat.le_of_ble_eq_true rfl) rfl rfl rfl ?_
  refine g_aload_n (pc := 37) dX0_init_37 rfl ?_
  refine g_bipush (pc := 38) (v := 7) dX0_init_38 rfl ?_
  refine i_newi (pc := 40) (kc := 0) (ks := 0) (N := 7) (q := M.length + 11) (A' := [ia0 7, ga0 (M.length + 1) 8, ia0 7, ia0 7, ia0 7, ia0 7, ia0 7, ia0 7, ia0 7, ia0 7, ia0 8, ia0 7]) dX0_init_40 (by decide) (by decide) (by decide) rfl (by omega) rfl ?_
  refine i_putF (pc := 42) (fs' := [.null, .ref (M.length), .int 0, .int (-1), .ref (M.length + 1), .ref (M.length + 10), .ref (M.length + 11), .null, .int 0, .int 0]) fw_X0_27 rfl dX0_init_42 hk (Nat.le_of_ble_eq_true rfl) rfl rfl rfl ?_
  refine g_aload_n (pc := 45) dX0_init_45 rfl ?_
  refine g_aload_n (pc := 46) dX0_init_46 rfl ?_
  refine i_putF (pc := 47) (fs' := [.ref a, .ref (M.length), .int 0, .int (-1), .ref (M.length + 1), .ref (M.length + 10), .ref (M.length + 11), .null, .int 0, .int 0]) fw_X0_30 rfl dX0_init_47 hk (Nat.le_of_ble_eq_true rfl) rfl rfl rfl ?_
  refine g_aload_n (pc := 50) dX0_init_50 rfl ?_
  refine g_aload_n (pc := 51) dX0_init_51 rfl ?_
  refine i_put (pc := 52) (fs' := [.ref a, .ref (M.length), .int 0, .int (-1), .ref (M.length + 1), .ref (M.length + 10), .ref (M.length + 11), .ref b, .int 0, .int 0]) fw_X0_34 dX0_init_52 hk (Nat.le_of_ble_eq_true rfl) rfl rfl rfl ?_
  exact g_return (x := ()) (pc := 55) dX0_init_55 rfl rfl rfl
