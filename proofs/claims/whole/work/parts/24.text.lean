/-! ===== the String constants: refs 100010 + i, their bytes 100030 + i ===== -/
def kLen (i : Nat) : Nat := k_len.getD i 0
def kAt (i j : Nat) : Int32 := (k_byt.getD i []).getD j 0
section QSTR
variable {X : Type} {emb : X → Option Value} {own : String} {cc : ByteArray} {nL : Nat} {ret : Option FieldType} {ini : Bool} {E : (Nat → Nat) → State → Prop} {d : Nat} {post : X → List AE → Prop} {kc ks pc : Nat} {L : List (Option Value)} {st : List Value} {M : List AE} {μ : Mem}
theorem g_ldcS {i : Nat} (hi : i < 12) (hd : decode cc pc = .ok (.ldc (k_idx i), 2)) (kk : WG emb RX2 cc nL ret ini E d post kc ks (pc + 2) L (.ref (100010 + i) :: st) M) : WG emb RX2 cc nL ret ini E d post kc ks pc L st M := by
  intro p l e R s m args below meth c H locs cells slots Q ad B D cT ls ct sl hC hR h1 h2 h3 h4 hS hW hl
  obtain ⟨hx, hb, hml, hown, hts, hini, hRR, hAD, hB, hK, hZ, hE⟩ := id hC
  exact va_ldcS hx hb hown (hZ.2.2.1 i hi) hd (kk p l e R s m args below meth c H locs cells slots Q ad B D cT ls ct sl hC hR h1 h2 h3 h4 hS hW hl)
theorem g_skv {i : Nat} (hi : i < 12) (hlk : Cond.fieldLink own 9 "java/lang/String" "value" "[B" ∈ q_tbl) (hd : decode cc pc = .ok (.getfield 9, 3)) (kk : WG emb own cc nL ret ini E d post kc ks (pc + 3) L (.ref (100030 + i) :: st) M) : WG emb own cc nL ret ini E d post kc ks pc L (.ref (100010 + i) :: st) M := by
  intro p l e R s m args below meth c H locs cells slots Q ad B D cT ls ct sl hC hR h1 h2 h3 h4 hS hW hl
  obtain ⟨hx, hb, hml, hown, hts, hini, hRR, hAD, hB, hK, hZ, hE⟩ := id hC
  exact vk_getf hx hb (hZ.2.1.1 i hi).2.2.1 hS hown (hts _ hlk) (fun _ h => h) hd (kk p l e R s m args below meth c H locs cells slots Q ad B D cT ls ct sl hC hR h1 h2 h3 h4 hS hW hl)
theorem g_skc {i : Nat} (hi : i < 12) (hlk : Cond.fieldLink own 15 "java/lang/String" "coder" "B" ∈ q_tbl) (hd : decode cc pc = .ok (.getfield 15, 3)) (kk : WG emb own cc nL ret ini E d post kc ks (pc + 3) L (.int 0 :: st) M) : WG emb own cc nL ret ini E d post kc ks pc L (.ref (100010 + i) :: st) M := by
  intro p l e R s m args below meth c H locs cells slots Q ad B D cT ls ct sl hC hR h1 h2 h3 h4 hS hW hl
  obtain ⟨hx, hb, hml, hown, hts, hini, hRR, hAD, hB, hK, hZ, hE⟩ := id hC
  exact vk_getf hx hb (hZ.2.1.1 i hi).2.1 hS hown (hts _ hlk) (fun _ h => h) hd (kk p l e R s m args below meth c H locs cells slots Q ad B D cT ls ct sl hC hR h1 h2 h3 h4 hS hW hl)
theorem g_sblen {i : Nat} (hi : i < 12) (hd : decode cc pc = .ok (.arraylength, 1)) (kk : WG emb own cc nL ret ini E d post kc ks (pc + 1) L (.int (nI (kLen i)) :: st) M) : WG emb own cc nL ret ini E d post kc ks pc L (.ref (100030 + i) :: st) M := by
  intro p l e R s m args below meth c H locs cells slots Q ad B D cT ls ct sl hC hR h1 h2 h3 h4 hS hW hl
  obtain ⟨hx, hb, hml, hown, hts, hini, hRR, hAD, hB, hK, hZ, hE⟩ := id hC
  exact va_tlen hx hb (hZ.2.1.1 i hi).2.2.2 hS rfl hd (kk p l e R s m args below meth c H locs cells slots Q ad B D cT ls ct sl hC hR h1 h2 h3 h4 hS hW hl)
theorem g_sbald {i j : Nat} {x : Int32} (hi : i < 12) (hx9 : x = nI j) (hj : j < kLen i) (hd : decode cc pc = .ok (.baload, 1)) (kk : WG emb own cc nL ret ini E d post kc ks (pc + 1) L (.int (kAt i j) :: st) M) : WG emb own cc nL ret ini E d post kc ks pc L (.int x :: .ref (100030 + i) :: st) M := by
  have hn : ∀ i, i < 12 → kLen i < 2 ^ 31 := by decide
  intro p l e R s m args below meth c H locs cells slots Q ad B D cT ls ct sl hC hR h1 h2 h3 h4 hS hW hl
  obtain ⟨hx, hb, hml, hown, hts, hini, hRR, hAD, hB, hK, hZ, hE⟩ := id hC
  refine va_tb hx hb (hZ.2.1.1 i hi).2.2.2 hS (ix_in hx9 hj (hn i hi)) ?_ hd (kk p l e R s m args below meth c H locs cells slots Q ad B D cT ls ct sl hC hR h1 h2 h3 h4 hS hW hl)
  rw [hx9, nI_cl hj (hn i hi)]
  rfl
theorem g_csZ (hlk : Cond.fieldLink own 38 "java/lang/String" "COMPACT_STRINGS" "Z" ∈ q_tbl) (hd : decode cc pc = .ok (.getstatic 38, 3)) (kk : WG emb own cc nL ret ini E d post kc ks (pc + 3) L (.int 1 :: st) M) : WG emb own cc nL ret ini E d post kc ks pc L st M := by
  intro p l e R s m args below meth c H locs cells slots Q ad B D cT ls ct sl hC hR h1 h2 h3 h4 hS hW hl
  obtain ⟨hx, hb, hml, hown, hts, hini, hRR, hAD, hB, hK, hZ, hE⟩ := id hC
  exact va_gets hx hb hZ.2.2.2.1 hS hown (hts _ hlk) (fun _ h => h) hd (kk p l e R s m args below meth c H locs cells slots Q ad B D cT ls ct sl hC hR h1 h2 h3 h4 hS hW hl)
theorem g_fmt (hlk : Cond.fieldLink own 1053 "jdk/internal/util/Preconditions" "SIOOBE_FORMATTER" "Ljava/util/function/BiFunction;" ∈ q_tbl) (hd : decode cc pc = .ok (.getstatic 1053, 3)) (k1 : WG emb own cc nL ret ini E d post kc ks (pc + 3) L (.null :: st) M) (k2 : WG emb own cc nL ret ini E d post kc ks (pc + 3) L (.ref 100098 :: st) M) : WG emb own cc nL ret ini E d post kc ks pc L st M := by
  intro p l e R s m args below meth c H locs cells slots Q ad B D cT ls ct sl hC hR h1 h2 h3 h4 hS hW hl
  obtain ⟨hx, hb, hml, hown, hts, hini, hRR, hAD, hB, hK, hZ, hE⟩ := id hC
  rcases hZ.2.2.2.2.1 with h | h
  · exact va_gets hx hb h hS hown (hts _ hlk) (fun _ h => h) hd (k1 p l e R s m args below meth c H locs cells slots Q ad B D cT ls ct sl hC hR h1 h2 h3 h4 hS hW hl)
  · exact va_gets hx hb h hS hown (hts _ hlk) (fun _ h => h) hd (k2 p l e R s m args below meth c H locs cells slots Q ad B D cT ls ct sl hC hR h1 h2 h3 h4 hS hW hl)
theorem g_getsN (hd : decode cc pc = .ok (.getstatic 73, 3)) (kk : WG emb RX3 cc nL ret ini E d post kc ks (pc + 3) L (.ref 100000 :: st) M) : WG emb RX3 cc nL ret ini E d post kc ks pc L st M := by
  intro p l e R s m args below meth c H locs cells slots Q ad B D cT ls ct sl hC hR h1 h2 h3 h4 hS hW hl
  obtain ⟨hx, hb, hml, hown, hts, hini, hRR, hAD, hB, hK, hZ, hE⟩ := id hC
  exact va_getsN hx hb (hZ.1 0 (by decide)).1 hS hown (va_tabs (A := #[]) (u := s) rfl rfl hZ.2.2.2.2.2) (fun _ h => h) hd (kk p l e R s m args below meth c H locs cells slots Q ad B D cT ls ct sl hC hR h1 h2 h3 h4 hS hW hl)
theorem g_i2c {x v : Int32} (hd : decode cc pc = .ok (.i2c, 1)) (hv : (x.toUInt32 % 65536).toInt32 = v) (k : WG emb own cc nL ret ini E d post kc ks (pc + 1) L (.int v :: st) M) : WG emb own cc nL ret ini E d post kc ks pc L (.int x :: st) M := WG.lift (fun hx hb _ w => lv_i2c hx hb hd hv w) k
/-- a call on a String constant -/
theorem g_callK {Y : Type} {emb2 : Y → Option Value} {y : MethodName} {bytes : ByteArray} {maxL : Nat} {ret2 : Option FieldType} {d2 i n idx : Nat} {As st0 : List Value} {post2 : Y → Mem → Prop} (hM : CA emb2 y bytes maxL ret2 d2 (.ref (100010 + i) :: As) μ post2) (hi : i < 12) (hm : MV y bytes maxL ret2 n) (hlk : Cond.methodLink own idx y ∈ q_tbl) (hdp : d2 + 1 ≤ d) (hqc : y.cls = "java/lang/String") (hn : As.length = n) (hst : st0 = As.reverse ++ .ref (100010 + i) :: st) (hw : (st.map fun v => v.category).sum ≤ 8) (hd : decode cc pc = .ok (.invokevirtual idx, 3))
    (kk : ∀ (x : Y) (μ1 : Mem), post2 x μ1 → WG emb own cc nL ret ini E d post kc ks (pc + 3) L ((emb2 x).toList ++ st) (mk μ1)) : WG emb own cc nL ret ini E d post kc ks pc L st0 (mk μ) := by
  intro p l e R s m args below meth c H locs cells slots Q ad B D cT ls ct sl hC hR h1 h2 h3 h4 hS hW hl
  obtain ⟨hx, hb, hml, hown, hts, hini, hRR, hAD, hB, hK, hZ, hE⟩ := id hC
  obtain ⟨m1, m2, m3, m4, m5, m6, m7⟩ := hm
  have cw : CallW R s args own y.cls idx y bytes maxL ret2 (Cond.code y bytes maxL ret2 :: q_tbl) ({ frames := d2, cells := 0, slots := 0, locals := 40 * d2 } : Room) 0 0 n := ⟨q_callB hts hRR hdp m1 m2 m3 m6 m7 hlk, hts _ m4, hts _ m5⟩
  have hp : PreV s H y.cls (ad (100010 + i)) (q_P (.ref (100010 + i) :: As) (mk μ) D cT ad B) (As.map (q_v ad)) := by
    refine ⟨q_blind, ?_, fun U hU hWm => ⟨rfl, ?_, by rw [hU]; exact hW, va_K.moved hWm.alike hK, by rw [hU]; exact hZ.go hWm hS⟩⟩
    · rw [hqc]
      exact vk_recv (i := i) (adK := fun i => ad (100010 + i)) hZ.2.1 hi hS
    · rw [hU]
      exact Nat.le_trans hB hS.1
  refine q_after (va_runV (Ts := q_tbl) (As := As.map (q_v ad)) (rest := st.map (q_v ad)) ⟨hx, hb, hml, hown, hts⟩ (hM l ad B D cT hAD) cw hp rfl (by rw [List.length_map]; exact hn) hl.1 ?_ (lv_room ?_) hd ⟨by omega, by omega⟩) hS ?_
  · show st0.map (q_v ad) = _
    rw [hst, List.map_append, List.map_reverse]
    rfl
  · rw [List.map_map]
    rw [show ((fun v : Value => v.category) ∘ q_v ad) = (fun v => v.category) from funext (q_v_cat ad)]
    exact hw
  · intro x M' H1 locs1 hp2 hW1 hS1
    obtain ⟨μ1, rfl, hp2⟩ := hp2
    have h := kk x μ1 hp2 p l e R s m args below meth c H1 locs1 (cells + 0) (slots + 0) Q ad B D cT ls ct sl hC hR (by omega) (by omega) h3 h4 hS1 hW1 hl
    rw [List.map_append] at h
    cases h9 : emb2 x with
    | none => rw [h9] at h; exact h
    | some v => rw [h9] at h; exact h
end QSTR
theorem c_J0_coder (i : Nat) (hi : i < 12) (μ : Mem) : CA eI yJ0_coder_7d493 cJ0_coder_7d493 1 (some .byte) 0 [.ref (100010 + i)] μ (fun x μ1 => x = 0 ∧ μ1 = μ) := by
  refine CT.of false (by decide) (by decide) (L := [some (.ref (100010 + i))]) rfl (Nat.le_of_ble_eq_true rfl) ?_
  refine g_csZ jl_J0_38 dJ0_coder_7d493_0 ?_
  refine g_if_eq (tgt := 13) dJ0_coder_7d493_3 (by decide) (fun h => absurd h (by decide)) (fun _ => ?_)
  refine g_aload_n dJ0_coder_7d493_6 rfl ?_
  refine g_skc hi jl_J0_15 dJ0_coder_7d493_7 ?_
  refine g_goto (tgt := 14) dJ0_coder_7d493_10 (by decide) ?_
  exact g_ireturn dJ0_coder_7d493_14 rfl rfl rfl ⟨_, rfl, rfl, rfl⟩
theorem c_J0_isLatin1 (i : Nat) (hi : i < 12) (μ : Mem) : CA eI yJ0_isLatin1_aae02 cJ0_isLatin1_aae02 1 (some .boolean) 0 [.ref (100010 + i)] μ (fun x μ1 => x = 1 ∧ μ1 = μ) := by
  refine CT.of false (by decide) (by decide) (L := [some (.ref (100010 + i))]) rfl (Nat.le_of_ble_eq_true rfl) ?_
  refine g_csZ jl_J0_38 dJ0_isLatin1_aae02_0 ?_
  refine g_if_eq (tgt := 17) dJ0_isLatin1_aae02_3 (by decide) (fun h => absurd h (by decide)) (fun _ => ?_)
  refine g_aload_n dJ0_isLatin1_aae02_6 rfl ?_
  refine g_skc hi jl_J0_15 dJ0_isLatin1_aae02_7 ?_
  refine g_if_ne (tgt := 17) dJ0_isLatin1_aae02_10 (by decide) (fun h => absurd rfl h) (fun _ => ?_)
  refine g_iconst (v := 1) dJ0_isLatin1_aae02_13 (by decide) ?_
  refine g_goto (tgt := 18) dJ0_isLatin1_aae02_14 (by decide) ?_
  exact g_ireturn dJ0_isLatin1_aae02_18 rfl rfl rfl ⟨_, rfl, rfl, rfl⟩
theorem c_J0_length (i : Nat) (hi : i < 12) (μ : Mem) : CA eI yJ0_length_8abf5 cJ0_length_8abf5 1 (some .int) 1 [.ref (100010 + i)] μ (fun x μ1 => x = nI (kLen i) ∧ μ1 = μ) := by
  refine CT.of false (by decide) (by decide) (L := [some (.ref (100010 + i))]) rfl (Nat.le_of_ble_eq_true rfl) ?_
  refine g_aload_n dJ0_length_8abf5_0 rfl ?_
  refine g_skv hi jl_J0_9 dJ0_length_8abf5_1 ?_
  refine g_sblen hi dJ0_length_8abf5_4 ?_
  refine g_aload_n dJ0_length_8abf5_5 rfl ?_
  refine g_callK (As := []) (c_J0_coder i hi μ) hi m_J0_coder_7d493 ml_J0_335 (by omega) rfl rfl rfl (Nat.le_of_ble_eq_true rfl) dJ0_length_8abf5_6 (fun x μ1 h => ?_)
  obtain ⟨rfl, rfl⟩ := h
  have h0 : ∀ i, i < 12 → nI (kLen i) >>> ((0 : Int32) &&& 31) = nI (kLen i) := by decide
  refine v_ishr dJ0_length_8abf5_9 (h0 i hi) ?_
  exact g_ireturn dJ0_length_8abf5_10 rfl rfl rfl ⟨_, rfl, rfl, rfl⟩
theorem c_J3_checkIndexN (j n : Nat) (hj : j < n) (hn : n < 2 ^ 31) (μ : Mem) : CA eI yJ3_checkIndex_8e157 cJ3_checkIndex_8e157 3 (some .int) 0 [.int (nI j), .int (nI n), .null] μ (fun x μ1 => x = nI j ∧ μ1 = μ) := by
  refine CT.of false (by decide) (by decide) (L := [some (.int (nI j)), some (.int (nI n)), some .null]) rfl (Nat.le_of_ble_eq_true rfl) ?_
  refine g_iload_n dJ3_checkIndex_8e157_0 rfl ?_
  refine g_if_lt (tgt := 9) dJ3_checkIndex_8e157_1 (by decide) (fun h => absurd h (nI_pos (by omega))) (fun _ => ?_)
  refine g_iload_n dJ3_checkIndex_8e157_4 rfl ?_
  refine g_iload_n dJ3_checkIndex_8e157_5 rfl ?_
  refine g_icmp_lt (tgt := 16) dJ3_checkIndex_8e157_6 (by decide) (fun _ => ?_) (fun h => absurd (nI_lt hj hn) h)
  refine g_iload_n dJ3_checkIndex_8e157_16 rfl ?_
  exact g_ireturn dJ3_checkIndex_8e157_17 rfl rfl rfl ⟨_, rfl, rfl, rfl⟩
theorem c_J3_checkIndexR (j n : Nat) (hj : j < n) (hn : n < 2 ^ 31) (μ : Mem) : CA eI yJ3_checkIndex_8e157 cJ3_checkIndex_8e157 3 (some .int) 0 [.int (nI j), .int (nI n), .ref 100098] μ (fun x μ1 => x = nI j ∧ μ1 = μ) := by
  refine CT.of false (by decide) (by decide) (L := [some (.int (nI j)), some (.int (nI n)), some (.ref 100098)]) rfl (Nat.le_of_ble_eq_true rfl) ?_
  refine g_iload_n dJ3_checkIndex_8e157_0 rfl ?_
  refine g_if_lt (tgt := 9) dJ3_checkIndex_8e157_1 (by decide) (fun h => absurd h (nI_pos (by omega))) (fun _ => ?_)
  refine g_iload_n dJ3_checkIndex_8e157_4 rfl ?_
  refine g_iload_n dJ3_checkIndex_8e157_5 rfl ?_
  refine g_icmp_lt (tgt := 16) dJ3_checkIndex_8e157_6 (by decide) (fun _ => ?_) (fun h => absurd (nI_lt hj hn) h)
  refine g_iload_n dJ3_checkIndex_8e157_16 rfl ?_
  exact g_ireturn dJ3_checkIndex_8e157_17 rfl rfl rfl ⟨_, rfl, rfl, rfl⟩
theorem c_J0_checkIndex (j n : Nat) (hj : j < n) (hn : n < 2 ^ 31) (μ : Mem) : CA eV yJ0_checkIndex_df160 cJ0_checkIndex_df160 2 none 1 [.int (nI j), .int (nI n)] μ (fun _ μ1 => μ1 = μ) := by
  refine CT.of false (by decide) (by decide) (L := [some (.int (nI j)), some (.int (nI n))]) rfl (Nat.le_of_ble_eq_true rfl) ?_
  refine g_iload_n dJ0_checkIndex_df160_0 rfl ?_
  refine g_iload_n dJ0_checkIndex_df160_1 rfl ?_
  refine g_fmt jl_J0_1053 dJ0_checkIndex_df160_2 ?_ ?_
  · refine a_cs3i (c_J3_checkIndexN j n hj hn μ) m_J3_checkIndex_8e157 ml_J0_1059 (by omega) (by decide) dJ0_checkIndex_df160_5 (fun x μ1 h => ?_)
    obtain ⟨rfl, rfl⟩ := h
    refine g_pop dJ0_checkIndex_df160_8 rfl ?_
    exact g_return (x := ()) dJ0_checkIndex_df160_9 rfl rfl ⟨_, rfl, rfl⟩
  · refine a_cs3i (c_J3_checkIndexR j n hj hn μ) m_J3_checkIndex_8e157 ml_J0_1059 (by omega) (by decide) dJ0_checkIndex_df160_5 (fun x μ1 h => ?_)
    obtain ⟨rfl, rfl⟩ := h
    refine g_pop dJ0_checkIndex_df160_8 rfl ?_
    exact g_return (x := ()) dJ0_checkIndex_df160_9 rfl rfl ⟨_, rfl, rfl⟩
theorem c_J1_charAt (i j : Nat) (hi : i < 12) (hj : j < kLen i) (μ : Mem) : CA eI yJ1_charAt_3b067 cJ1_charAt_3b067 2 (some .char) 2 [.ref (100030 + i), .int (nI j)] μ (fun x μ1 => x = kAt i j ∧ μ1 = μ) := by
  have hn : ∀ i, i < 12 → kLen i < 2 ^ 31 := by decide
  have ha : ∀ i, i < 12 → ∀ j, j < kLen i → ((kAt i j &&& 255).toUInt32 % 65536).toInt32 = kAt i j ∧ narrow .char (.int (kAt i j)) = .int (kAt i j) := by decide +kernel
  refine CT.of false (by decide) (by decide) (L := [some (.ref (100030 + i)), some (.int (nI j))]) rfl (Nat.le_of_ble_eq_true rfl) ?_
  refine g_iload_n dJ1_charAt_3b067_0 rfl ?_
  refine g_aload_n dJ1_charAt_3b067_1 rfl ?_
  refine g_sblen hi dJ1_charAt_3b067_2 ?_
  refine a_cs2v (c_J0_checkIndex j (kLen i) hj (hn i hi) μ) m_J0_checkIndex_df160 ml_J1_9 (by omega) (by decide) dJ1_charAt_3b067_3 (fun x μ1 h => ?_)
  subst h
  refine g_aload_n dJ1_charAt_3b067_6 rfl ?_
  refine g_iload_n dJ1_charAt_3b067_7 rfl ?_
  refine g_sbald hi rfl hj dJ1_charAt_3b067_8 ?_
  refine g_sipush (v := 255) dJ1_charAt_3b067_9 (by decide) ?_
  refine g_iand dJ1_charAt_3b067_12 ?_
  refine g_i2c dJ1_charAt_3b067_13 (ha i hi j hj).1 ?_
  exact g_ireturn dJ1_charAt_3b067_14 rfl (ha i hi j hj).2 rfl ⟨_, rfl, rfl, rfl⟩
theorem c_J0_charAt (i j : Nat) (hi : i < 12) (hj : j < kLen i) (μ : Mem) : CA eI yJ0_charAt_5068e cJ0_charAt_5068e 2 (some .char) 3 [.ref (100010 + i), .int (nI j)] μ (fun x μ1 => x = kAt i j ∧ μ1 = μ) := by
  have ha : ∀ i, i < 12 → ∀ j, j < kLen i → narrow .char (.int (kAt i j)) = .int (kAt i j) := by decide +kernel
  refine CT.of false (by decide) (by decide) (L := [some (.ref (100010 + i)), some (.int (nI j))]) rfl (Nat.le_of_ble_eq_true rfl) ?_
  refine g_aload_n dJ0_charAt_5068e_0 rfl ?_
  refine g_callK (As := []) (c_J0_isLatin1 i hi μ) hi m_J0_isLatin1_aae02 ml_J0_492 (by omega) rfl rfl rfl (Nat.le_of_ble_eq_true rfl) dJ0_charAt_5068e_1 (fun x μ1 h => ?_)
  obtain ⟨rfl, rfl⟩ := h
  refine g_if_eq (tgt := 16) dJ0_charAt_5068e_4 (by decide) (fun h => absurd h (by decide)) (fun _ => ?_)
  refine g_aload_n dJ0_charAt_5068e_7 rfl ?_
  refine g_skv hi jl_J0_9 dJ0_charAt_5068e_8 ?_
  refine g_iload_n dJ0_charAt_5068e_11 rfl ?_
  refine a_cs2i (c_J1_charAt i j hi hj μ1) m_J1_charAt_3b067 ml_J0_495 (by omega) (by decide) dJ0_charAt_5068e_12 (fun x μ1 h => ?_)
  obtain ⟨rfl, rfl⟩ := h
  exact g_ireturn dJ0_charAt_5068e_15 rfl (ha i hi j hj) rfl ⟨_, rfl, rfl, rfl⟩
