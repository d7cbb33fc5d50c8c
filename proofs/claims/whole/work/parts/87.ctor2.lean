/-! ===== constructors, on: a static array copied into a new cell; new cells written ===== -/
section QCOPYS
variable {X : Type} {emb : X → Option Value} {own : String} {cc : ByteArray} {nL : Nat} {ret : Option FieldType} {ini : Bool} {E : (Nat → Nat) → State → Prop} {d : Nat} {post : X → List AE → Prop} {kc ks pc : Nat} {L : List (Option Value)} {st : List Value} {M : List AE} {k ci : Nat} {fs : List Value} {A A' : List AE}
theorem g_copyS {idx i0 k1 n1 : Nat} {g : Nat → Int32} {sp dp n : Int32} (hi0 : i0 < 5) (hlk : Cond.methodLink own idx arraycopyName ∈ q_tbl) (hdp : 1 ≤ d) (hw : (st.map fun v => v.category).sum ≤ 8) (hd : decode cc pc = .ok (.invokestatic idx, 3)) (he1 : M[k1]? = some (.inl (0, n1, .inl g))) (z1 : ¬ sp < 0) (z2 : ¬ dp < 0) (z3 : ¬ n < 0) (z4 : sp.toNatClampNeg + n.toNatClampNeg ≤ s_N i0) (z5 : dp.toNatClampNeg + n.toNatClampNeg ≤ n1)
    (kk : WG emb own cc nL ret ini E d post kc ks (pc + 3) L st (M.set k1 (.inl (0, n1, .inl (va_cpy (s_V i0) g sp.toNatClampNeg dp.toNatClampNeg n.toNatClampNeg))))) : WG emb own cc nL ret ini E d post kc ks pc L (.int n :: .int dp :: .ref k1 :: .int sp :: .ref (100000 + i0) :: st) M := by
  intro p l e R s m args below meth c H locs cells slots Q ad B D cT ls ct sl hC hR h1 h2 h3 h4 hS hW hl
  obtain ⟨hx, hb, hml, hown, hts, hini, hRR, hAD, hB, hK, hZ, hE⟩ := id hC
  have hk1 : ad k1 = B + k1 := hAD k1 (hW.lt he1)
  show W p l e R s m args below meth c H locs cells slots Q (F0 m pc ls (.int n :: .int dp :: .ref (ad k1) :: .int sp :: .ref (ad (100000 + i0)) :: st.map (q_v ad)))
  rw [hk1]
  obtain ⟨cell, t1, ⟨tv, q0, hq0, cm0, hqk0⟩, t3, t4, t5, t6, t7⟩ := (hZ.1 i0 hi0).2
  have hc0 : H[ad (100000 + i0)]? = some cell := (hS.2.1 _ (Array.getElem?_eq_some_iff.mp t1).1 t7).trans t1
  intro T hT X9
  have hc1 : H[B + k1]? = some (vp_cell (cT 0) (n1, .inl g)) := hW.one he1 0 _ rfl
  obtain ⟨-, q1, hq1, cm1, hqk1⟩ := (hK.2 0 _ rfl).1 n1 (fun j => .int (g j))
  obtain ⟨vm', X', step⟩ := X9.arraycopy hx hown (hts _ hlk) (hts (Cond.native arraycopyName) (by decide +kernel)) (hts (Cond.static arraycopyName) (by decide +kernel)) (hts (Cond.initialized "java/lang/System") (by decide +kernel)) (src := ad (100000 + i0)) (dst := B + k1) (cs := cell) (cd := vp_cell (cT 0) (n1, .inl g)) (srcPos := sp) (destPos := dp) (n := n) (by rw [hT]; exact hc0) (by rw [hT]; exact hc1)
    tv (fun _ h => by cases h) t3 (fun h => by cases h) hq0 hq1 hqk0 hqk1 (by simp [refKind]) z1 z2 z3
    (by rw [z_nn z1, z_nn z3]; omega)
    (by rw [z_nn z2, z_nn z3]; show ¬ _ > ((arrV (cT 0) n1 (fun j => .int (g j))).slots.size : Int); rw [arrV_size]; omega)
    (fun vm₁ _ i hi => by
      have e : cell.slots.getD (sp.toNatClampNeg + i) .null = .int (s_V i0 (sp.toNatClampNeg + i)) := by
        rw [Array.getD_eq_getD_getElem?, t6 _ (by omega)]
        rfl
      refine ⟨?_, ?_⟩
      · rw [e]
        rfl
      · rw [e]
        exact trivial)
    (g := F0 m pc ls (.int n :: .int dp :: .ref (B + k1) :: .int sp :: .ref (ad (100000 + i0)) :: st.map (q_v ad))) rfl (by rw [hml]; exact hl.1) (rest := st.map (q_v ad)) rfl (by rw [hb]; exact hd) (by omega) (by
      show 2 * 0 + _ + _ ≤ _
      rw [List.map_map]
      rw [show ((fun v : Value => v.category) ∘ q_v ad) = (fun v => v.category) from funext (q_v_cat ad)]
      have h9 : nativeFrameWords "java/lang/System" "arraycopy" 5 + 11 ≤ 32 := by decide +kernel
      omega)
  have e1 : copied cell (vp_cell (cT 0) (n1, .inl g)) sp dp n = vp_cell (cT 0) (n1, .inl (va_cpy (s_V i0) g sp.toNatClampNeg dp.toNatClampNeg n.toNatClampNeg)) := va_copiedX (fun z => .int z) cell (cT 0) (s_V i0) g t6 z4
  rw [e1] at X' step
  have hlt : B + k1 < H.size := (Array.getElem?_eq_some_iff.mp hc1).1
  have hheap : ((T.setVm vm').setCell (B + k1) (vp_cell (cT 0) (n1, .inl (va_cpy (s_V i0) g sp.toNatClampNeg dp.toNatClampNeg n.toNatClampNeg)))).heap = H.setIfInBounds (B + k1) (vp_cell (cT 0) (n1, .inl (va_cpy (s_V i0) g sp.toNatClampNeg dp.toNatClampNeg n.toNatClampNeg))) := by rw [← hT]; rfl
  have oq : ∀ q : Nat, q ≠ B + k1 → (H.setIfInBounds (B + k1) (vp_cell (cT 0) (n1, .inl (va_cpy (s_V i0) g sp.toNatClampNeg dp.toNatClampNeg n.toNatClampNeg))))[q]? = H[q]? := fun q hq => by simp [Array.getElem?_setIfInBounds, Ne.symm hq]
  have hW1 : q_W D cT ad B (M.set k1 (.inl (0, n1, .inl (va_cpy (s_V i0) g sp.toNatClampNeg dp.toNatClampNeg n.toNatClampNeg)))) (H.setIfInBounds (B + k1) (vp_cell (cT 0) (n1, .inl (va_cpy (s_V i0) g sp.toNatClampNeg dp.toNatClampNeg n.toNatClampNeg)))) := by
    refine hW.set he1 (by simp) oq ?_
    show (H.setIfInBounds (B + k1) _)[B + k1]? = some _
    simp [Array.getElem?_setIfInBounds, hlt]
    rfl
  obtain ⟨t, a1, b1⟩ := kk p l e R s m args below meth c (H.setIfInBounds (B + k1) (vp_cell (cT 0) (n1, .inl (va_cpy (s_V i0) g sp.toNatClampNeg dp.toNatClampNeg n.toNatClampNeg)))) _ cells slots Q ad B D cT ls ct sl hC hR h1 h2 h3 h4 ⟨by simp; exact hS.1, fun q g1 g2 => by
      rw [oq q (fun e => g2 (by rw [e]; exact Nat.le_add_right B k1))]
      exact hS.2.1 q g1 g2, fun q hq => by
      rcases List.mem_append.mp hq with h | h
      · exact hS.2.2 q h
      · obtain ⟨z, -, hz⟩ := List.mem_map.mp h
        rw [← hz]
        exact Nat.le_add_right B k1⟩ hW1 hl _ hheap X'
  exact ⟨t, step t a1, b1⟩
theorem NF.atA {j q : Nat} (hq : M.length + j = q) : (NF M k ci fs A)[q]? = A[j]? := by
  unfold NF
  rw [List.getElem?_append_right (by rw [List.length_set]; omega), List.length_set, ← hq, Nat.add_sub_cancel_left]
theorem NF.setA {j q : Nat} {e : AE} (hq : M.length + j = q) : (NF M k ci fs A).set q e = NF M k ci fs (A.set j e) := by
  apply List.ext_getElem?
  intro i
  rw [List.getElem?_set, NF.len]
  by_cases hi : i < M.length
  · rw [if_neg (by omega)]
    unfold NF
    rw [List.getElem?_append_left (by rw [List.length_set]; exact hi), List.getElem?_append_left (by rw [List.length_set]; exact hi)]
  · have ei : M.length + (i - M.length) = i := by omega
    rw [NF.atA (A := A) ei, NF.atA (A := A.set j e) ei, List.getElem?_set]
    by_cases h : q = i
    · rw [if_pos h, if_pos (show j = i - M.length by omega)]
      by_cases h2 : j < A.length
      · rw [if_pos h2, if_pos (by omega)]
      · rw [if_neg h2, if_neg (by omega)]
    · rw [if_neg h, if_neg (show ¬ j = i - M.length by omega)]
theorem i_iast {j q n9 : Nat} {f : Nat → Int32} {i x : Int32} (hd : decode cc pc = .ok (.iastore, 1)) (hq : M.length + j = q) (hA : A[j]? = some (.inl (0, n9, .inl f))) (hin : vp_in i n9) (hS : A.set j (.inl (0, n9, .inl (upd f i.toNatClampNeg x))) = A') (kk : WG emb own cc nL ret ini E d post kc ks (pc + 1) L st (NF M k ci fs A')) : WG emb own cc nL ret ini E d post kc ks pc L (.int x :: .int i :: .ref q :: st) (NF M k ci fs A) := by
  refine g_iast hd ((NF.atA hq).trans hA) hin ?_
  rw [NF.setA hq, hS]
  exact kk
theorem i_copyS {idx i0 j q n1 : Nat} {g : Nat → Int32} {sp dp n : Int32} (hi0 : i0 < 5) (hlk : Cond.methodLink own idx arraycopyName ∈ q_tbl) (hdp : 1 ≤ d) (hw : (st.map fun v => v.category).sum ≤ 8) (hd : decode cc pc = .ok (.invokestatic idx, 3)) (hq : M.length + j = q) (hA : A[j]? = some (.inl (0, n1, .inl g))) (z1 : ¬ sp < 0) (z2 : ¬ dp < 0) (z3 : ¬ n < 0) (z4 : sp.toNatClampNeg + n.toNatClampNeg ≤ s_N i0) (z5 : dp.toNatClampNeg + n.toNatClampNeg ≤ n1) (hS : A.set j (.inl (0, n1, .inl (va_cpy (s_V i0) g sp.toNatClampNeg dp.toNatClampNeg n.toNatClampNeg))) = A') (kk : WG emb own cc nL ret ini E d post kc ks (pc + 3) L st (NF M k ci fs A')) : WG emb own cc nL ret ini E d post kc ks pc L (.int n :: .int dp :: .ref q :: .int sp :: .ref (100000 + i0) :: st) (NF M k ci fs A) := by
  refine g_copyS hi0 hlk hdp hw hd ((NF.atA hq).trans hA) z1 z2 z3 z4 z5 ?_
  rw [NF.setA hq, hS]
  exact kk
end QCOPYS
theorem c_X4_init {M : List AE} {k : Nat} (he : M[k]? = some (.inr (3, [.null, .null, .null]))) (hm : M.length < 90000) : CTo yX4_init cX4_init 1  1 7 172 [.ref k] M (fun _ M1 => M1 = NF M k 3 [.ref (M.length), .ref (M.length + 1), .ref (M.length + 2)] [.inl (0, 4, .inl (upd (upd (upd (upd (fun _ => 0) 0 (-1)) 1 (-1)) 2 (-1)) 3 (-1))), ia0 4, ga0 (M.length + 2) 4, ia0 40, ia0 40, ia0 40, ia0 40]) := by
  have hk : k < M.length := (List.getElem?_eq_some_iff.mp he).1
  refine CTo.of true (by decide) (fun _ => rfl) (L := [some (.ref k)]) rfl (Nat.le_of_ble_eq_true rfl) ?_
  refine WG.to (NF.start he) ?_
  refine g_aload_n (pc := 0) dX4_init_0 rfl ?_
  refine g_objInit (pc := 1) ml_X4_1 (by decide) dX4_init_1 (Nat.le_of_ble_eq_true rfl) ?_
  refine g_aload_n (pc := 4) dX4_init_4 rfl ?_
  refine g_iconst (pc := 5) (v := 4) dX4_init_5 rfl ?_
  refine i_newi (pc := 6) (kc := 6) (ks := 168) (N := 4) (q := M.length) (A' := [ia0 4]) dX4_init_6 (by decide) (by decide) (by decide) rfl (by omega) rfl ?_
  refine g_dup (pc := 8) dX4_init_8 rfl ?_
  refine g_iconst (pc := 9) (v := 0) dX4_init_9 rfl ?_
  refine g_iconst (pc := 10) (v := -1) dX4_init_10 rfl ?_
  refine i_iast (pc := 11) (j := 0) (q := M.length) (A' := [.inl (0, 4, .inl (upd (fun _ => 0) 0 (-1)))]) dX4_init_11 rfl rfl (by unfold vp_in; decide) rfl ?_
  refine g_dup (pc := 12) dX4_init_12 rfl ?_
  refine g_iconst (pc := 13) (v := 1) dX4_init_13 rfl ?_
  refine g_iconst (pc := 14) (v := -1) dX4_init_14 rfl ?_
  refine i_iast (pc := 15) (j := 0) (q := M.length) (A' := [.inl (0, 4, .inl (upd (upd (fun _ => 0) 0 (-1)) 1 (-1)))]) dX4_init_15 rfl rfl (by unfold vp_in; decide) rfl ?_
  refine g_dup (pc := 16) dX4_init_16 rfl ?_
  refine g_iconst (pc := 17) (v := 2) dX4_init_17 rfl ?_
  refine g_iconst (pc := 18) (v := -1) dX4_init_18 rfl ?_
  refine i_iast (pc := 19) (j := 0) (q := M.length) (A' := [.inl (0, 4, .inl (upd (upd (upd (fun _ => 0) 0 (-1)) 1 (-1)) 2 (-1)))]) dX4_init_19 rfl rfl (by unfold vp_in; decide) rfl ?_
  refine g_dup (pc := 20) dX4_init_20 rfl ?_
  refine g_iconst (pc := 21) (v := 3) dX4_init_21 rfl ?_
  refine g_iconst (pc := 22) (v := -1) dX4_init_22 rfl ?_
  refine i_iast (pc := 23) (j := 0) (q := M.length) (A' := [.inl (0, 4, .inl (upd (upd (upd (upd (fun _ => 0) 0 (-1)) 1 (-1)) 2 (-1)) 3 (-1)))]) dX4_init_23 rfl rfl (by unfold vp_in; decide) rfl ?_
  refine i_putF (pc := 24) (fs' := [.ref (M.length), .null, .null]) fw_X4_9 rfl dX4_init_24 hk (Nat.le_of_ble_eq_true rfl) rfl rfl rfl ?_
  refine g_aload_n (pc := 27) dX4_init_27 rfl ?_
  refine g_iconst (pc := 28) (v := 4) dX4_init_28 rfl ?_
  refine i_newi (pc := 29) (kc := 5) (ks := 164) (N := 4) (q := M.length + 1) (A' := [.inl (0, 4, .inl (upd (upd (upd (upd (fun _ => 0) 0 (-1)) 1 (-1)) 2 (-1)) 3 (-1))), ia0 4]) dX4_init_29 (by decide) (by decide) (by decide) rfl (by omega) rfl ?_
  refine i_putF (pc := 31) (fs' := [.ref (M.length), .ref (M.length + 1), .null]) fw_X4_13 rfl dX4_init_31 hk (Nat.le_of_ble_eq_true rfl) rfl rfl rfl ?_
  refine g_aload_n (pc := 34) dX4_init_34 rfl ?_
  refine g_iconst (pc := 35) (v := 4) dX4_init_35 rfl ?_
  refine g_bipush (pc := 36) (v := 40) dX4_init_36 rfl ?_
  refine i_mna (pc := 38) (kc := 0) (ks := 0) (N := 4) (K := 40) (q := M.length + 2) (A' := [.inl (0, 4, .inl (upd (upd (upd (upd (fun _ => 0) 0 (-1)) 1 (-1)) 2 (-1)) 3 (-1))), ia0 4, ga0 (M.length + 2) 4, ia0 40, ia0 40, ia0 40, ia0 40]) wc_X4_16 dX4_init_38 (by decide) (by decide) (by decide) (by decide) (by decide) (by decide) rfl (by omega) rfl ?_
  refine i_putF (pc := 42) (fs' := [.ref (M.length), .ref (M.length + 1), .ref (M.length + 2)]) fw_X4_18 rfl dX4_init_42 hk (Nat.le_of_ble_eq_true rfl) rfl rfl rfl ?_
  exact g_return (x := ()) (pc := 45) dX4_init_45 rfl rfl rfl
theorem c_X6_init {M : List AE} {k : Nat} (he : M[k]? = some (.inr (5, [.null, .null, .null, .null, .int 0]))) (hm : M.length < 90000) : CTo yX6_init cX6_init 1  1 16 1156 [.ref k] M (fun _ M1 => M1 = NF M k 5 [.ref (M.length), .ref (M.length + 7), .ref (M.length + 14), .ref (M.length + 15), .int 1] [ga0 (M.length) 6, .inl (0, 160, .inl (va_cpy (s_V 2) (fun _ => 0) 0 0 8)), ia0 160, ia0 160, ia0 160, ia0 160, ia0 160, ga0 (M.length + 7) 6, .inl (0, 3, .inl (va_cpy (s_V 3) (fun _ => 0) 0 0 3)), ia0 3, ia0 3, ia0 3, ia0 3, ia0 3, ia0 6, ia0 160]) := by
  have hk : k < M.length := (List.getElem?_eq_some_iff.mp he).1
  refine CTo.of true (by decide) (fun _ => rfl) (L := [some (.ref k)]) rfl (Nat.le_of_ble_eq_true rfl) ?_
  refine WG.to (NF.start he) ?_
  refine g_aload_n (pc := 0) dX6_init_0 rfl ?_
  refine g_objInit (pc := 1) ml_X6_3 (by decide) dX6_init_1 (Nat.le_of_ble_eq_true rfl) ?_
  refine g_aload_n (pc := 4) dX6_init_4 rfl ?_
  refine g_bipush (pc := 5) (v := 6) dX6_init_5 rfl ?_
  refine g_sipush (pc := 7) (v := 160) dX6_init_7 rfl ?_
  refine i_mna (pc := 10) (kc := 9) (ks := 190) (N := 6) (K := 160) (q := M.length) (A' := [ga0 (M.length) 6, ia0 160, ia0 160, ia0 160, ia0 160, ia0 160, ia0 160]) wc_X6_9 dX6_init_10 (by decide) (by decide) (by decide) (by decide) (by decide) (by decide) rfl (by omega) rfl ?_
  refine i_putF (pc := 14) (fs' := [.ref (M.length), .null, .null, .null, .int 0]) fw_X6_11 rfl dX6_init_14 hk (Nat.le_of_ble_eq_true rfl) rfl rfl rfl ?_
  refine g_aload_n (pc := 17) dX6_init_17 rfl ?_
  refine g_bipush (pc := 18) (v := 6) dX6_init_18 rfl ?_
  refine g_iconst (pc := 20) (v := 3) dX6_init_20 rfl ?_
  refine i_mna (pc := 21) (kc := 2) (ks := 166) (N := 6) (K := 3) (q := M.length + 7) (A' := [ga0 (M.length) 6, ia0 160, ia0 160, ia0 160, ia0 160, ia0 160, ia0 160, ga0 (M.length + 7) 6, ia0 3, ia0 3, ia0 3, ia0 3, ia0 3, ia0 3]) wc_X6_9 dX6_init_21 (by decide) (by decide) (by decide) (by decide) (by decide) (by decide) rfl (by omega) rfl ?_
  refine i_putF (pc := 25) (fs' := [.ref (M.length), .ref (M.length + 7), .null, .null, .int 0]) fw_X6_16 rfl dX6_init_25 hk (Nat.le_of_ble_eq_true rfl) rfl rfl rfl ?_
  refine g_aload_n (pc := 28) dX6_init_28 rfl ?_
  refine g_bipush (pc := 29) (v := 6) dX6_init_29 rfl ?_
  refine i_newi (pc := 31) (kc := 1) (ks := 160) (N := 6) (q := M.length + 14) (A' := [ga0 (M.length) 6, ia0 160, ia0 160, ia0 160, ia0 160, ia0 160, ia0 160, ga0 (M.length + 7) 6, ia0 3, ia0 3, ia0 3, ia0 3, ia0 3, ia0 3, ia0 6]) dX6_init_31 (by decide) (by decide) (by decide) rfl (by omega) rfl ?_
  refine i_putF (pc := 33) (fs' := [.ref (M.length), .ref (M.length + 7), .ref (M.length + 14), .null, .int 0]) fw_X6_19 rfl dX6_init_33 hk (Nat.le_of_ble_eq_true rfl) rfl rfl rfl ?_
  refine g_aload_n (pc := 36) dX6_init_36 rfl ?_
  refine g_sipush (pc := 37) (v := 160) dX6_init_37 rfl ?_
  refine i_newi (pc := 40) (kc := 0) (ks := 0) (N := 160) (q := M.length + 15) (A' := [ga0 (M.length) 6, ia0 160, ia0 160, ia0 160, ia0 160, ia0 160, ia0 160, ga0 (M.length + 7) 6, ia0 3, ia0 3, ia0 3, ia0 3, ia0 3, ia0 3, ia0 6, ia0 160]) dX6_init_40 (by decide) (by decide) (by decide) rfl (by omega) rfl ?_
  refine i_putF (pc := 42) (fs' := [.ref (M.length), .ref (M.length + 7), .ref (M.length + 14), .ref (M.length + 15), .int 0]) fw_X6_23 rfl dX6_init_42 hk (Nat.le_of_ble_eq_true rfl) rfl rfl rfl ?_
  refine g_aload_n (pc := 45) dX6_init_45 rfl ?_
  refine g_iconst (pc := 46) (v := 1) dX6_init_46 rfl ?_
  refine i_put (pc := 47) (fs' := [.ref (M.length), .ref (M.length + 7), .ref (M.length + 14), .ref (M.length + 15), .int 1]) fw_X6_26 dX6_init_47 hk (Nat.le_of_ble_eq_true rfl) rfl rfl rfl ?_
  refine g_gets (pc := 50) (i := 2) (by decide) sl_X6_30 dX6_init_50 ?_
  refine g_iconst (pc := 53) (v := 0) dX6_init_53 rfl ?_
  refine g_aload_n (pc := 54) dX6_init_54 rfl ?_
  refine g_get (pc := 55) fl_X6_11 dX6_init_55 (NF.at_ hk) rfl ?_
  refine g_iconst (pc := 58) (v := 0) dX6_init_58 rfl ?_
  refine g_aald (pc := 59) (k2 := M.length + 1) dX6_init_59 ((NF.atA (j := 0) rfl).trans rfl) (by unfold vp_in; decide) rfl ?_
  refine g_iconst (pc := 60) (v := 0) dX6_init_60 rfl ?_
  refine g_gets (pc := 61) (i := 2) (by decide) sl_X6_30 dX6_init_61 ?_
  refine g_slen (pc := 64) (i := 2) (v := 8) (by decide) rfl dX6_init_64 ?_
  refine i_copyS (pc := 65) (i0 := 2) (j := 1) (q := M.length + 1) (A' := [ga0 (M.length) 6, .inl (0, 160, .inl (va_cpy (s_V 2) (fun _ => 0) 0 0 8)), ia0 160, ia0 160, ia0 160, ia0 160, ia0 160, ga0 (M.length + 7) 6, ia0 3, ia0 3, ia0 3, ia0 3, ia0 3, ia0 3, ia0 6, ia0 160]) (by decide) ml_X6_33 (by decide) (Nat.le_of_ble_eq_true rfl) dX6_init_65 rfl rfl (by decide) (by decide) (by decide) (by decide) (by decide) rfl ?_
  refine g_gets (pc := 68) (i := 3) (by decide) sl_X6_39 dX6_init_68 ?_
  refine g_iconst (pc := 71) (v := 0) dX6_init_71 rfl ?_
  refine g_aload_n (pc := 72) dX6_init_72 rfl ?_
  refine g_get (pc := 73) fl_X6_16 dX6_init_73 (NF.at_ hk) rfl ?_
  refine g_iconst (pc := 76) (v := 0) dX6_init_76 rfl ?_
  refine g_aald (pc := 77) (k2 := M.length + 8) dX6_init_77 ((NF.atA (j := 7) rfl).trans rfl) (by unfold vp_in; decide) rfl ?_
  refine g_iconst (pc := 78) (v := 0) dX6_init_78 rfl ?_
  refine g_iconst (pc := 79) (v := 3) dX6_init_79 rfl ?_
  refine i_copyS (pc := 80) (i0 := 3) (j := 8) (q := M.length + 8) (A' := [ga0 (M.length) 6, .inl (0, 160, .inl (va_cpy (s_V 2) (fun _ => 0) 0 0 8)), ia0 160, ia0 160, ia0 160, ia0 160, ia0 160, ga0 (M.length + 7) 6, .inl (0, 3, .inl (va_cpy (s_V 3) (fun _ => 0) 0 0 3)), ia0 3, ia0 3, ia0 3, ia0 3, ia0 3, ia0 6, ia0 160]) (by decide) ml_X6_33 (by decide) (Nat.le_of_ble_eq_true rfl) dX6_init_80 rfl rfl (by decide) (by decide) (by decide) (by decide) (by decide) rfl ?_
  exact g_return (x := ()) (pc := 83) dX6_init_83 rfl rfl rfl
