/-! ===== the model: part, force, feed, iron, count, image, back, text ===== -/
theorem MVw.added {μ : Mem} {v : View} {k n : Nat} (h : MVw μ v) (hk : k ≤ 5) (hn : n ≤ 9) (hc : v 0 3 < 7) : MVw (mset (mset (mset (mset (mset μ 61 (v 0 3) (nI k)) 62 (3 * v 0 3) (nI n)) 62 (3 * v 0 3 + 1) (nI 50)) 62 (3 * v 0 3 + 2) (nI 0)) 57 11 (nI (v 0 3 + 1))) (addV v k n) := by
  obtain ⟨⟨a1, a2⟩, ⟨b1, b2⟩, ⟨c1, c2⟩, ⟨d1, d2⟩, e⟩ := h
  obtain ⟨z0, z1, z2, z3⟩ := addV_0 v k n
  obtain ⟨y1, y2, y3, y4⟩ := addV_new v k n
  have e57 : ∀ i, i ≠ 11 → mset (mset (mset (mset (mset μ 61 (v 0 3) (nI k)) 62 (3 * v 0 3) (nI n)) 62 (3 * v 0 3 + 1) (nI 50)) 62 (3 * v 0 3 + 2) (nI 0)) 57 11 (nI (v 0 3 + 1)) 57 i = μ 57 i := fun i hi => by rw [mset_nj hi, mset_ne (by decide), mset_ne (by decide), mset_ne (by decide), mset_ne (by decide)]
  refine ⟨?_, ?_, ?_, ?_, fun p hp => ?_⟩
  · rw [z0, e57 7 (by decide)]
    exact ⟨a1, a2⟩
  · rw [z1, e57 8 (by decide)]
    exact ⟨b1, b2⟩
  · rw [z2, e57 4 (by decide)]
    exact ⟨c1, c2⟩
  · rw [z3, mset_eq]
    exact ⟨rfl, by omega⟩
  · rw [z3] at hp
    by_cases hpn : p = v 0 3
    · subst hpn
      rw [y1, y2, y3, y4]
      refine ⟨?_, ?_, ?_, ?_⟩
      · rw [mset_ne (by decide), mset_ne (by decide), mset_ne (by decide), mset_ne (by decide), mset_eq]
        exact ⟨rfl, hk⟩
      · rw [mset_ne (by decide), mset_nj (by omega), mset_nj (by omega), mset_eq]
        exact ⟨rfl, hn⟩
      · rw [mset_ne (by decide), mset_nj (by omega), mset_eq]
        exact ⟨rfl, by decide⟩
      · rw [mset_ne (by decide), mset_eq]
        exact ⟨rfl, by decide⟩
    · obtain ⟨p1, p2, p3, p4⟩ := e p (by omega)
      rw [addV_old v k n (by decide) hpn, addV_old v k n (by decide) hpn, addV_old v k n (by decide) hpn, addV_old v k n (by decide) hpn]
      refine ⟨?_, ?_, ?_, ?_⟩
      · rw [mset_ne (by decide), mset_ne (by decide), mset_ne (by decide), mset_ne (by decide), mset_nj hpn]
        exact p1
      · rw [mset_ne (by decide), mset_nj (by omega), mset_nj (by omega), mset_nj (by omega), mset_ne (by decide)]
        exact p2
      · rw [mset_ne (by decide), mset_nj (by omega), mset_nj (by omega), mset_nj (by omega), mset_ne (by decide)]
        exact p3
      · rw [mset_ne (by decide), mset_nj (by omega), mset_nj (by omega), mset_nj (by omega), mset_ne (by decide)]
        exact p4
theorem c_X8_part (v : View) (μ : Mem) (hV : MVw μ v) (k n : Int32) : CA eI yX8_part cX8_part 3 (some .int) 1 [.ref 57, .int k, .int n] μ (fun r μ1 => (¬ partOK k n ∧ r = -2 ∧ μ1 = μ) ∨ (partOK k n ∧ v 0 3 = 7 ∧ r = -4 ∧ μ1 = μ) ∨ (partOK k n ∧ v 0 3 < 7 ∧ r = nI (v 0 3) ∧ MVw μ1 (addV v (nx k) (nx n)) ∧ (∀ c, c ≠ 57 → c ≠ 61 → c ≠ 62 → μ1 c = μ c) ∧ ∀ i, i ≠ 11 → μ1 57 i = μ 57 i)) := by
  have h7 := hV.2.2.2.1.2
  refine CT.of false (by decide) (by decide) (L := [some (.ref 57), some (.int k), some (.int n)]) rfl (Nat.le_of_ble_eq_true rfl) ?_
  refine g_iload_n (pc := 0) dX8_part_0 rfl ?_
  refine g_i2l (pc := 1) dX8_part_1 rfl ?_
  refine g_lconst (pc := 2) (v := 0) dX8_part_2 (by decide) ?_
  refine g_ldc2 (pc := 3) dX8_part_3 kc_X8_101 ?_
  refine a_cs3i (pc := 6) (c_X8_in k.toInt64 0 5 μ) m_X8_in ml_X8_76 (by omega) (Nat.le_of_ble_eq_true rfl) dX8_part_6 (fun x_6 μ_6 h_6 => ?_)
  obtain ⟨hm_6, hd_6⟩ := h_6
  have hm_6 := hm_6.symm
  subst hm_6
  rw [in_c (x := k) (y := 0) (z := 5) 0 5 rfl rfl (by decide) (by decide)] at hd_6
  refine g_if_eq (pc := 9) (tgt := 24) dX8_part_9 (by decide) (fun c_9 => ?_) (fun c_9 => ?_)
  · have c9 := (hd_6.resolve_left (fun q => absurd (q.1.symm.trans c_9) (by decide))).2
    have hno : ¬ partOK k n := fun h => c9 ⟨by omega, h.1⟩
    refine g_bipush (pc := 24) (v := (-2)) dX8_part_24 (by decide) ?_
    refine g_ireturn (pc := 26) dX8_part_26 rfl (by first | rfl | decide) rfl ⟨_, rfl, ?_⟩
    exact Or.inl ⟨hno, rfl, rfl⟩
  · have c9 := (hd_6.resolve_right (fun q => c_9 q.1)).2
    refine g_iload_n (pc := 12) dX8_part_12 rfl ?_
    refine g_i2l (pc := 13) dX8_part_13 rfl ?_
    refine g_lconst (pc := 14) (v := 0) dX8_part_14 (by decide) ?_
    refine g_ldc2 (pc := 15) dX8_part_15 kc_X8_103 ?_
    refine a_cs3i (pc := 18) (c_X8_in n.toInt64 0 9 μ) m_X8_in ml_X8_76 (by omega) (Nat.le_of_ble_eq_true rfl) dX8_part_18 (fun x_18 μ_18 h_18 => ?_)
    obtain ⟨hm_18, hd_18⟩ := h_18
    have hm_18 := hm_18.symm
    subst hm_18
    rw [in_c (x := n) (y := 0) (z := 9) 0 9 rfl rfl (by decide) (by decide)] at hd_18
    refine g_if_ne (pc := 21) (tgt := 27) dX8_part_21 (by decide) (fun c_21 => ?_) (fun c_21 => ?_)
    · have c21 := (hd_18.resolve_right (fun q => c_21 q.1)).2
      have hok : partOK k n := ⟨c9.2, c21.2⟩
      have e_k := nx_lt (x := k) (n := 6) (by omega) (by decide)
      have e_n := nx_lt (x := n) (n := 10) (by omega) (by decide)
      refine g_aload_n (pc := 27) dX8_part_27 rfl ?_
      refine v_geti (pc := 28) fl_X8_73 dX8_part_28 (by first | rfl | assumption) rfl hV.2.2.2.1.1 ?_
      refine g_bipush (pc := 31) (v := (nI 7)) dX8_part_31 (by decide) ?_
      refine g_icmp_ne (pc := 33) (tgt := 39) dX8_part_33 (by decide) (fun c_33 => ?_) (fun c_33 => ?_)
      · have c33 : v 0 3 < 7 := by
          have : ¬ v 0 3 = 7 := fun h => c_33 (by rw [h])
          omega
        refine g_aload_n (pc := 39) dX8_part_39 rfl ?_
        refine a_getr (pc := 40) (q := 61) fl_X8_29 dX8_part_40 (by first | rfl | assumption) rfl rfl ?_
        refine g_aload_n (pc := 43) dX8_part_43 rfl ?_
        refine v_geti (pc := 44) fl_X8_73 dX8_part_44 (by first | rfl | assumption) rfl hV.2.2.2.1.1 ?_
        refine g_iload_n (pc := 47) dX8_part_47 rfl ?_
        refine a_iast (pc := 48) dX8_part_48 (by first | rfl | assumption) rfl (by omega) ?_
        refine g_aload_n (pc := 49) dX8_part_49 rfl ?_
        refine a_getr (pc := 50) (q := 62) fl_X8_32 dX8_part_50 (by first | rfl | assumption) rfl rfl ?_
        refine g_iconst (pc := 53) (v := (nI 3)) dX8_part_53 (by decide) ?_
        refine g_aload_n (pc := 54) dX8_part_54 rfl ?_
        refine v_geti (pc := 55) fl_X8_73 dX8_part_55 (by first | rfl | assumption) rfl ((congrFun (mset_ne (by omega)) 11).trans hV.2.2.2.1.1) ?_
        refine v_imul (pc := 58) dX8_part_58 (pk_mul 3 _) ?_
        refine g_iload_n (pc := 59) dX8_part_59 rfl ?_
        refine a_iast (pc := 60) dX8_part_60 (by first | rfl | assumption) rfl (by omega) ?_
        refine g_aload_n (pc := 61) dX8_part_61 rfl ?_
        refine a_getr (pc := 62) (q := 62) fl_X8_32 dX8_part_62 (by first | rfl | assumption) rfl rfl ?_
        refine g_iconst (pc := 65) (v := (nI 3)) dX8_part_65 (by decide) ?_
        refine g_aload_n (pc := 66) dX8_part_66 rfl ?_
        refine v_geti (pc := 67) fl_X8_73 dX8_part_67 (by first | rfl | assumption) rfl ((congrFun (mset_ne (by omega)) 11).trans ((congrFun (mset_ne (by omega)) 11).trans hV.2.2.2.1.1)) ?_
        refine v_imul (pc := 70) dX8_part_70 (pk_mul 3 _) ?_
        refine g_iconst (pc := 71) (v := (nI 1)) dX8_part_71 (by decide) ?_
        refine v_iadd (pc := 72) dX8_part_72 (nI_add _ 1) ?_
        refine g_bipush (pc := 73) (v := (nI 50)) dX8_part_73 (by decide) ?_
        refine a_iast (pc := 75) dX8_part_75 (by first | rfl | assumption) rfl (by omega) ?_
        refine g_aload_n (pc := 76) dX8_part_76 rfl ?_
        refine a_getr (pc := 77) (q := 62) fl_X8_32 dX8_part_77 (by first | rfl | assumption) rfl rfl ?_
        refine g_iconst (pc := 80) (v := (nI 3)) dX8_part_80 (by decide) ?_
        refine g_aload_n (pc := 81) dX8_part_81 rfl ?_
        refine v_geti (pc := 82) fl_X8_73 dX8_part_82 (by first | rfl | assumption) rfl ((congrFun (mset_ne (by omega)) 11).trans ((congrFun (mset_ne (by omega)) 11).trans ((congrFun (mset_ne (by omega)) 11).trans hV.2.2.2.1.1))) ?_
        refine v_imul (pc := 85) dX8_part_85 (pk_mul 3 _) ?_
        refine g_iconst (pc := 86) (v := (nI 2)) dX8_part_86 (by decide) ?_
        refine v_iadd (pc := 87) dX8_part_87 (nI_add _ 2) ?_
        refine g_iconst (pc := 88) (v := (nI 0)) dX8_part_88 (by decide) ?_
        refine a_iast (pc := 89) dX8_part_89 (by first | rfl | assumption) rfl (by omega) ?_
        refine g_aload_n (pc := 90) dX8_part_90 rfl ?_
        refine g_dup (pc := 91) dX8_part_91 rfl ?_
        refine v_geti (pc := 92) fl_X8_73 dX8_part_92 (by first | rfl | assumption) rfl ((congrFun (mset_ne (by omega)) 11).trans ((congrFun (mset_ne (by omega)) 11).trans ((congrFun (mset_ne (by omega)) 11).trans ((congrFun (mset_ne (by omega)) 11).trans hV.2.2.2.1.1)))) ?_
        refine g_iconst (pc := 95) (v := (nI 1)) dX8_part_95 (by decide) ?_
        refine v_iadd (pc := 96) dX8_part_96 (nI_succ _).symm ?_
        refine a_puti (pc := 97) fw_X8_73 dX8_part_97 (by first | rfl | assumption) rfl ?_
        refine g_aload_n (pc := 100) dX8_part_100 rfl ?_
        refine v_geti (pc := 101) fl_X8_73 dX8_part_101 (by first | rfl | assumption) rfl mset_eq ?_
        refine g_iconst (pc := 104) (v := (nI 1)) dX8_part_104 (by decide) ?_
        refine v_isub (pc := 105) dX8_part_105 (pk_sub (by omega)) ?_
        refine g_ireturn (pc := 106) dX8_part_106 rfl (by first | rfl | decide) rfl ⟨_, rfl, ?_⟩
        refine Or.inr (Or.inr ⟨hok, c33, by rw [Nat.add_sub_cancel], ?_, fun c h1 h2 h3 => by rw [mset_ne h1, mset_ne h3, mset_ne h3, mset_ne h3, mset_ne h2], fun i hi => by rw [mset_nj hi, mset_ne (by decide), mset_ne (by decide), mset_ne (by decide), mset_ne (by decide)]⟩)
        have h9 := hV.added (k := nx k) (n := nx n) hok.1 hok.2 c33
        rw [← e_k, ← e_n] at h9
        exact h9
      · have c33 : v 0 3 = 7 := nI_eq' (by omega) (by omega) c_33
        refine g_bipush (pc := 36) (v := (-4)) dX8_part_36 (by decide) ?_
        refine g_ireturn (pc := 38) dX8_part_38 rfl (by first | rfl | decide) rfl ⟨_, rfl, ?_⟩
        exact Or.inr (Or.inl ⟨hok, c33, rfl, rfl⟩)
    · have c21 := (hd_18.resolve_left (fun q => absurd (q.1.symm.trans c_21) (by decide))).2
      have hno : ¬ partOK k n := fun h => c21 ⟨by omega, h.2⟩
      refine g_bipush (pc := 24) (v := (-2)) dX8_part_24 (by decide) ?_
      refine g_ireturn (pc := 26) dX8_part_26 rfl (by first | rfl | decide) rfl ⟨_, rfl, ?_⟩
      exact Or.inl ⟨hno, rfl, rfl⟩
theorem c_X8_force (v : View) (tc : Nat) (sz : Nat → Nat) (tb : Nat → Nat → Nat) (μ : Mem) (hW : MW μ v tc sz tb) (t : Int32) : CA eI yX8_force cX8_force 3 (some .int) 1 [.ref 57, .int t] μ (fun r μ1 => (¬ nx t < tc ∧ r = -2 ∧ μ1 = μ) ∨ (nx t < tc ∧ r = nI (v 0 2) ∧ μ1 = mset μ 57 4 (nI (nx t)))) := by
  obtain ⟨hV, hTx, hru⟩ := id hW
  obtain ⟨⟨v1, v1b⟩, ⟨v2, v2b⟩, ⟨v3, v3b⟩, ⟨v4, v4b⟩, v5⟩ := id hV
  have htc := hTx.1.2.2
  refine CT.of false (by decide) (by decide) (L := [some (.ref 57), some (.int t), none]) rfl (Nat.le_of_ble_eq_true rfl) ?_
  refine g_iload_n (pc := 0) dX8_force_0 rfl ?_
  refine g_i2l (pc := 1) dX8_force_1 rfl ?_
  refine g_lconst (pc := 2) (v := 0) dX8_force_2 (by decide) ?_
  refine g_aload_n (pc := 3) dX8_force_3 rfl ?_
  refine v_geti (pc := 4) fl_X8_70 dX8_force_4 (by first | rfl | assumption) rfl hTx.1.1 ?_
  refine g_iconst (pc := 7) (v := (nI 1)) dX8_force_7 (by decide) ?_
  refine v_isub (pc := 8) dX8_force_8 rfl ?_
  refine g_i2l (pc := 9) dX8_force_9 rfl ?_
  refine a_cs3i (pc := 10) (c_X8_in t.toInt64 0 (nI tc - nI 1).toInt64 μ) m_X8_in ml_X8_76 (by omega) (Nat.le_of_ble_eq_true rfl) dX8_force_10 (fun x_10 μ_10 h_10 => ?_)
  obtain ⟨hm_10, hd_10⟩ := h_10
  have hm_10 := hm_10.symm
  subst hm_10
  rw [in_p (x := t) (y := 0) rfl (by omega)] at hd_10
  refine g_if_ne (pc := 13) (tgt := 19) dX8_force_13 (by decide) (fun c_13 => ?_) (fun c_13 => ?_)
  · have c13 := (hd_10.resolve_right (fun q => c_13 q.1)).2
    have e_t := nx_lt c13 (by omega)
    refine g_aload_n (pc := 19) dX8_force_19 rfl ?_
    refine v_geti (pc := 20) fl_X8_98 dX8_force_20 (by first | rfl | assumption) rfl v3 ?_
    refine a_ist2 (pc := 23) dX8_force_23 (by decide) rfl ?_
    refine g_aload_n (pc := 24) dX8_force_24 rfl ?_
    refine g_iload_n (pc := 25) dX8_force_25 rfl ?_
    refine a_puti (pc := 26) fw_X8_98 dX8_force_26 (by first | rfl | assumption) rfl ?_
    refine g_iload_n (pc := 29) dX8_force_29 rfl ?_
    refine g_ireturn (pc := 30) dX8_force_30 rfl (by first | rfl | decide) rfl ⟨_, rfl, ?_⟩
    exact Or.inr ⟨c13, rfl, by rw [← e_t]⟩
  · have c13 := (hd_10.resolve_left (fun q => absurd (q.1.symm.trans c_13) (by decide))).2
    refine g_bipush (pc := 16) (v := (-2)) dX8_force_16 (by decide) ?_
    refine g_ireturn (pc := 18) dX8_force_18 rfl (by first | rfl | decide) rfl ⟨_, rfl, ?_⟩
    exact Or.inl ⟨c13, rfl, rfl⟩
/-- the model's tape -/
def TPm (μ : Mem) (tn : Nat) (tp : Nat → Nat) : Prop := μ 57 6 = nI tn ∧ tn ≤ 160 ∧ ∀ j, j < tn → μ 60 j = nI (tp j) ∧ tp j ≤ 255
theorem TPm.moved {μ μ1 : Mem} {tn : Nat} {tp : Nat → Nat} (h : TPm μ tn tp) (h1 : μ1 57 6 = μ 57 6) (h2 : μ1 60 = μ 60) : TPm μ1 tn tp := ⟨h1.trans h.1, h.2.1, fun j hj => by rw [h2]; exact h.2.2 j hj⟩
theorem TPm.put {μ : Mem} {tn : Nat} {tp : Nat → Nat} (h : TPm μ tn tp) (hn : tn < 160) {a : Nat} (ha : a ≤ 255) : TPm (mset (mset μ 60 tn (nI a)) 57 6 (nI (tn + 1))) (tn + 1) (updN tp tn a) := by
  refine ⟨mset_eq, by omega, fun j hj => ?_⟩
  rw [mset_ne (by omega)]
  by_cases hjn : j = tn
  · subst hjn
    rw [mset_eq, updN_eq]
    exact ⟨rfl, ha⟩
  · rw [mset_nj hjn, updN_ne _ _ hjn]
    exact h.2.2 j (by omega)
theorem c_X8_feed (μ : Mem) (tn : Nat) (tp : Nat → Nat) (ht : TPm μ tn tp) (w : Int32) : CA eI yX8_feed cX8_feed 2 (some .int) 1 [.ref 57, .int w] μ (fun r μ1 => (¬ nx w ≤ 255 ∧ r = -2 ∧ μ1 = μ) ∨ (nx w ≤ 255 ∧ tn = 160 ∧ r = -4 ∧ μ1 = μ) ∨ (nx w ≤ 255 ∧ tn < 160 ∧ r = nI (tn + 1) ∧ μ1 = mset (mset μ 60 tn (nI (nx w))) 57 6 (nI (tn + 1)))) := by
  have h160 := ht.2.1
  refine CT.of false (by decide) (by decide) (L := [some (.ref 57), some (.int w)]) rfl (Nat.le_of_ble_eq_true rfl) ?_
  refine g_iload_n (pc := 0) dX8_feed_0 rfl ?_
  refine g_i2l (pc := 1) dX8_feed_1 rfl ?_
  refine g_lconst (pc := 2) (v := 0) dX8_feed_2 (by decide) ?_
  refine g_ldc2 (pc := 3) dX8_feed_3 kc_X8_120 ?_
  refine a_cs3i (pc := 6) (c_X8_in w.toInt64 0 255 μ) m_X8_in ml_X8_76 (by omega) (Nat.le_of_ble_eq_true rfl) dX8_feed_6 (fun x_6 μ_6 h_6 => ?_)
  obtain ⟨hm_6, hd_6⟩ := h_6
  have hm_6 := hm_6.symm
  subst hm_6
  rw [in_c (x := w) (y := 0) (z := 255) 0 255 rfl rfl (by decide) (by decide)] at hd_6
  refine g_if_ne (pc := 9) (tgt := 15) dX8_feed_9 (by decide) (fun c_9 => ?_) (fun c_9 => ?_)
  · have c9 := (hd_6.resolve_right (fun q => c_9 q.1)).2
    have c9 := c9.2
    have e_w := nx_lt (x := w) (n := 256) (by omega) (by decide)
    refine g_aload_n (pc := 15) dX8_feed_15 rfl ?_
    refine v_geti (pc := 16) fl_X8_122 dX8_feed_16 (by first | rfl | assumption) rfl ht.1 ?_
    refine g_sipush (pc := 19) (v := (nI 160)) dX8_feed_19 (by decide) ?_
    refine g_icmp_ne (pc := 22) (tgt := 28) dX8_feed_22 (by decide) (fun c_22 => ?_) (fun c_22 => ?_)
    · have c22 : tn < 160 := by
        have : ¬ tn = 160 := fun h => c_22 (by rw [h])
        omega
      refine g_aload_n (pc := 28) dX8_feed_28 rfl ?_
      refine a_getr (pc := 29) (q := 60) fl_X8_20 dX8_feed_29 (by first | rfl | assumption) rfl rfl ?_
      refine g_aload_n (pc := 32) dX8_feed_32 rfl ?_
      refine v_geti (pc := 33) fl_X8_122 dX8_feed_33 (by first | rfl | assumption) rfl ht.1 ?_
      refine g_iload_n (pc := 36) dX8_feed_36 rfl ?_
      refine a_iast (pc := 37) dX8_feed_37 (by first | rfl | assumption) rfl (by omega) ?_
      refine g_aload_n (pc := 38) dX8_feed_38 rfl ?_
      refine g_dup (pc := 39) dX8_feed_39 rfl ?_
      refine v_geti (pc := 40) fl_X8_122 dX8_feed_40 (by first | rfl | assumption) rfl ((congrFun (mset_ne (by omega)) 6).trans ht.1) ?_
      refine g_iconst (pc := 43) (v := (nI 1)) dX8_feed_43 (by decide) ?_
      refine v_iadd (pc := 44) dX8_feed_44 (nI_succ tn).symm ?_
      refine a_puti (pc := 45) fw_X8_122 dX8_feed_45 (by first | rfl | assumption) rfl ?_
      refine g_aload_n (pc := 48) dX8_feed_48 rfl ?_
      refine v_geti (pc := 49) fl_X8_122 dX8_feed_49 (by first | rfl | assumption) rfl mset_eq ?_
      refine g_ireturn (pc := 52) dX8_feed_52 rfl (by first | rfl | decide) rfl ⟨_, rfl, ?_⟩
      exact Or.inr (Or.inr ⟨c9, c22, rfl, by rw [← e_w]⟩)
    · have c22 : tn = 160 := nI_eq' (by omega) (by omega) c_22
      refine g_bipush (pc := 25) (v := (-4)) dX8_feed_25 (by decide) ?_
      refine g_ireturn (pc := 27) dX8_feed_27 rfl (by first | rfl | decide) rfl ⟨_, rfl, ?_⟩
      exact Or.inr (Or.inl ⟨c9, c22, rfl, rfl⟩)
  · have c9 := (hd_6.resolve_left (fun q => absurd (q.1.symm.trans c_9) (by decide))).2
    refine g_bipush (pc := 12) (v := (-2)) dX8_feed_12 (by decide) ?_
    refine g_ireturn (pc := 14) dX8_feed_14 rfl (by first | rfl | decide) rfl ⟨_, rfl, ?_⟩
    exact Or.inl ⟨fun h => c9 ⟨by omega, h⟩, rfl, rfl⟩
theorem c_X8_iron (v : View) (tc : Nat) (sz : Nat → Nat) (tb : Nat → Nat → Nat) (μ : Mem) (hW : MW μ v tc sz tb) (p : Int32) : CA eI yX8_iron cX8_iron 3 (some .int) 45 [.ref 57, .int p] μ (fun r μ1 => (¬ nx p < v 0 3 ∧ r = -2 ∧ μ1 = μ) ∨ (nx p < v 0 3 ∧ r = nI (stF v (QM sz tb (v 0 2)) 9 [nx p] 1 (nx p)) ∧ MVw μ1 (ironV v (stF v (QM sz tb (v 0 2)) 9 [nx p] 1)) ∧ (∀ c, c ≠ 57 → c ≠ 62 → c ≠ 63 → c ≠ 64 → μ1 c = μ c) ∧ ∀ i, i < 12 ∨ 30 < i → μ1 57 i = μ 57 i)) := by
  obtain ⟨hV, hTx, hru⟩ := id hW
  obtain ⟨⟨v1, v1b⟩, ⟨v2, v2b⟩, ⟨v3, v3b⟩, ⟨v4, v4b⟩, v5⟩ := id hV
  refine CT.of false (by decide) (by decide) (L := [some (.ref 57), some (.int p), none]) rfl (Nat.le_of_ble_eq_true rfl) ?_
  refine g_aload_n (pc := 0) dX8_iron_0 rfl ?_
  refine g_iload_n (pc := 1) dX8_iron_1 rfl ?_
  refine a_cv1i (pc := 2) (c_X8_isPart p (v 0 3) (by omega) μ v4) m_X8_isPart ml_X8_82 (by omega) (by first | rfl | assumption) rfl rfl (Nat.le_of_ble_eq_true rfl) dX8_iron_2 (fun x_2 μ_2 h_2 => ?_)
  obtain ⟨hm_2, hd_2⟩ := h_2
  have hm_2 := hm_2.symm
  subst hm_2
  refine g_if_ne (pc := 5) (tgt := 11) dX8_iron_5 (by decide) (fun c_5 => ?_) (fun c_5 => ?_)
  · have c5 := (hd_2.resolve_right (fun q => c_5 q.1)).2
    have e_a := nx_lt c5 (by omega)
    generalize j_a : nx p = a at e_a c5
    subst e_a
    refine g_aload_n (pc := 11) dX8_iron_11 rfl ?_
    refine a_cv0v (pc := 12) (c_X8_begins v μ hV) m_X8_begins ml_X8_108 (by omega) (by first | rfl | assumption) rfl rfl (Nat.le_of_ble_eq_true rfl) dX8_iron_12 (fun x_12 μ_12 h_12 => ?_)
    obtain ⟨b1, b2, b3⟩ := h_12
    have hW2 := hW.ifm b3
    have o0 := MO.nil (Q := (QM sz tb (v 0 2))) (sp := 9) b1 b2
    refine g_aload_n (pc := 15) dX8_iron_15 rfl ?_
    refine g_iload_n (pc := 16) dX8_iron_16 rfl ?_
    refine a_cv1v (pc := 17) (c_X8_irons v tc sz tb _ _ _ μ_12 hW2 o0.1 (Nat.zero_le _) a c5) m_X8_irons ml_X8_252 (by omega) (by first | rfl | assumption) rfl rfl (Nat.le_of_ble_eq_true rfl) dX8_iron_17 (fun x_17 μ_17 h_17 => ?_)
    obtain ⟨o17, f17⟩ := o0.go (by decide) (by simp) h_17
    have hW3 := hW2.ifm f17
    have fz := b3.trans f17
    have hcr : ∀ q, q < v 0 3 → μ_17 63 q = nI ((stF v (QM sz tb (v 0 2)) 9 [a] 1) q) ∧ (stF v (QM sz tb (v 0 2)) 9 [a] 1) q ≤ 99 := o17.1.1
    refine g_iconst (pc := 20) (v := (nI 0)) dX8_iron_20 (by decide) ?_
    refine a_ist2 (pc := 21) dX8_iron_21 (by decide) rfl ?_
    have lp22 : ∀ (zz : Nat) (i : Nat) (hi : i ≤ v 0 3) (ν : Mem) (hν : (∀ q, q < i → ν 62 (3 * q + 1) = nI ((stF v (QM sz tb (v 0 2)) 9 [a] 1) q)) ∧ (∀ k, (∀ q, q < v 0 3 → k ≠ 3 * q + 1) → ν 62 k = μ_17 62 k) ∧ ∀ c, c ≠ 62 → ν c = μ_17 c), v 0 3 - i = zz → WG eI yX8_iron.cls cX8_iron 3 (some .int) false (fun _ _ => True) 45 (mpost (fun r μ1 => (¬ a < v 0 3 ∧ r = -2 ∧ μ1 = μ) ∨ (a < v 0 3 ∧ r = nI (stF v (QM sz tb (v 0 2)) 9 [a] 1 (a)) ∧ MVw μ1 (ironV v (stF v (QM sz tb (v 0 2)) 9 [a] 1)) ∧ (∀ c, c ≠ 57 → c ≠ 62 → c ≠ 63 → c ≠ 64 → μ1 c = μ c) ∧ ∀ i, i < 12 ∨ 30 < i → μ1 57 i = μ 57 i))) 0 0 22 [some (.ref 57), some (.int (nI a)), some (.int (nI i))] [] (mk ν) := by
      intro zz
      induction zz using Nat.strongRecOn with
      | ind zz ih =>
        intro i hi ν hν hzz
        obtain ⟨a1, a2, a3⟩ := hν
        refine g_iload_n (pc := 22) dX8_iron_22 rfl ?_
        refine g_aload_n (pc := 23) dX8_iron_23 rfl ?_
        refine v_geti (pc := 24) fl_X8_73 dX8_iron_24 (by first | rfl | assumption) rfl ((congrFun (a3 57 (by omega)) 11).trans hW3.1.2.2.2.1.1) ?_
        refine g_icmp_ge (pc := 27) (tgt := 52) dX8_iron_27 (by decide) (fun c_27 => ?_) (fun c_27 => ?_)
        · have c27 := nI_le' (by omega) (by omega) c_27
          obtain rfl : i = v 0 3 := by omega
          refine g_aload_n (pc := 52) dX8_iron_52 rfl ?_
          refine a_getr (pc := 53) (q := 63) fl_X8_35 dX8_iron_53 (by first | rfl | assumption) rfl rfl ?_
          refine g_iload_n (pc := 56) dX8_iron_56 rfl ?_
          refine v_iald (pc := 57) dX8_iron_57 (by first | rfl | assumption) rfl (by omega) ((congrFun (a3 63 (by omega)) a).trans (hcr a c5).1) ?_
          refine g_ireturn (pc := 58) dX8_iron_58 rfl (by first | rfl | decide) rfl ⟨_, rfl, ?_⟩
          refine Or.inr ⟨c5, rfl, ?_, fun c h1 h2 h3 h4 => (a3 c h2).trans (fz.1 c h1 h3 h4), fun i hi => (congrFun (a3 57 (by omega)) i).trans (fz.2 i hi)⟩
          obtain ⟨⟨n1, n1b⟩, ⟨n2, n2b⟩, ⟨n3, n3b⟩, ⟨n4, n4b⟩, n5⟩ := hW3.1
          have e57 := a3 57 (by omega)
          refine ⟨by rw [e57]; exact ⟨n1, n1b⟩, by rw [e57]; exact ⟨n2, n2b⟩, by rw [e57]; exact ⟨n3, n3b⟩, by rw [e57]; exact ⟨n4, n4b⟩, fun q hq => ?_⟩
          have hq : q < v 0 3 := hq
          obtain ⟨q1, q2, q3, q4⟩ := n5 q hq
          rw [ironV_o v _ (by decide), ironV_o v _ (by decide), ironV_3 v _ hq, ironV_o v _ (by decide), a3 61 (by omega), a2 (3 * q) (fun r _ => by omega), a2 (3 * q + 2) (fun r _ => by omega)]
          exact ⟨q1, q2, ⟨a1 q hq, (hcr q hq).2⟩, q4⟩
        · have c27 := nI_gt' (by omega) (by omega) c_27
          refine g_aload_n (pc := 30) dX8_iron_30 rfl ?_
          refine a_getr (pc := 31) (q := 62) fl_X8_32 dX8_iron_31 (by first | rfl | assumption) rfl rfl ?_
          refine g_iconst (pc := 34) (v := (nI 3)) dX8_iron_34 (by decide) ?_
          refine g_iload_n (pc := 35) dX8_iron_35 rfl ?_
          refine v_imul (pc := 36) dX8_iron_36 (pk_mul 3 i) ?_
          refine g_iconst (pc := 37) (v := (nI 1)) dX8_iron_37 (by decide) ?_
          refine v_iadd (pc := 38) dX8_iron_38 (nI_add _ 1) ?_
          refine g_aload_n (pc := 39) dX8_iron_39 rfl ?_
          refine a_getr (pc := 40) (q := 63) fl_X8_35 dX8_iron_40 (by first | rfl | assumption) rfl rfl ?_
          refine g_iload_n (pc := 43) dX8_iron_43 rfl ?_
          refine v_iald (pc := 44) dX8_iron_44 (by first | rfl | assumption) rfl (by omega) ((congrFun (a3 63 (by omega)) i).trans (hcr i c27).1) ?_
          refine a_iast (pc := 45) dX8_iron_45 (by first | rfl | assumption) rfl (by omega) ?_
          refine a_iinc2 (pc := 46) dX8_iron_46 (inc1 i) (by decide) rfl ?_
          refine g_goto (pc := 49) (tgt := 22) dX8_iron_49 (by decide) ?_
          refine ih (v 0 3 - (i + 1)) (by omega) (i + 1) (by omega) _ ⟨fun q hq => ?_, fun k hk => (mset_nj (hk i c27)).trans (a2 k hk), fun c hc => (mset_ne hc).trans (a3 c hc)⟩ rfl
          rcases Nat.lt_or_ge q i with hqi | hqi
          · rw [mset_nj (by omega)]
            exact a1 q hqi
          · obtain rfl : q = i := by omega
            exact mset_eq
    exact lp22 _ 0 (Nat.zero_le _) _ ⟨fun q hq => absurd hq (Nat.not_lt_zero q), fun _ _ => rfl, fun _ _ => rfl⟩ rfl
  · have c5 := (hd_2.resolve_left (fun q => absurd (q.1.symm.trans c_5) (by decide))).2
    refine g_bipush (pc := 8) (v := (-2)) dX8_iron_8 (by decide) ?_
    refine g_ireturn (pc := 10) dX8_iron_10 rfl (by first | rfl | decide) rfl ⟨_, rfl, ?_⟩
    exact Or.inl ⟨c5, rfl, rfl⟩
theorem c_X8_count (v : View) (tc : Nat) (sz : Nat → Nat) (tb : Nat → Nat → Nat) (μ : Mem) (hW : MW μ v tc sz tb) (tn : Nat) (ht : μ 57 6 = nI tn) (w : Int32) : CA eI yX8_count cX8_count 2 (some .int) 2 [.ref 57, .int w] μ (fun r μ1 => r = cntV v tc tn w ∧ IFm μ μ1) := by
  obtain ⟨hV, hTx, hru⟩ := id hW
  obtain ⟨⟨v1, v1b⟩, ⟨v2, v2b⟩, ⟨v3, v3b⟩, ⟨v4, v4b⟩, v5⟩ := id hV
  refine CT.of false (by decide) (by decide) (L := [some (.ref 57), some (.int w)]) rfl (Nat.le_of_ble_eq_true rfl) ?_
  refine g_iload_n (pc := 0) dX8_count_0 rfl ?_
  refine g_i2l (pc := 1) dX8_count_1 rfl ?_
  refine g_lconst (pc := 2) (v := 0) dX8_count_2 (by decide) ?_
  refine g_ldc2 (pc := 3) dX8_count_3 kc_X8_80 ?_
  refine a_cs3i (pc := 6) (c_X8_in w.toInt64 0 4 μ) m_X8_in ml_X8_76 (by omega) (Nat.le_of_ble_eq_true rfl) dX8_count_6 (fun x_6 μ_6 h_6 => ?_)
  obtain ⟨hm_6, hd_6⟩ := h_6
  have hm_6 := hm_6.symm
  subst hm_6
  rw [in_c (x := w) (y := 0) (z := 4) 0 4 rfl rfl (by decide) (by decide)] at hd_6
  refine g_if_ne (pc := 9) (tgt := 15) dX8_count_9 (by decide) (fun c_9 => ?_) (fun c_9 => ?_)
  · have c9 := (hd_6.resolve_right (fun q => c_9 q.1)).2
    have e_j := nx_lt (x := w) (n := 5) (by omega) (by decide)
    generalize j_j : nx w = j at e_j c9
    subst e_j
    refine g_iload_n (pc := 15) dX8_count_15 rfl ?_
    refine g_iconst (pc := 16) (v := (nI 4)) dX8_count_16 (by decide) ?_
    refine g_icmp_ge (pc := 17) (tgt := 60) dX8_count_17 (by decide) (fun c_17 => ?_) (fun c_17 => ?_)
    · have c17 := nI_le' (by omega) (by omega) c_17
      obtain rfl : j = 4 := by omega
      refine g_aload_n (pc := 60) dX8_count_60 rfl ?_
      refine a_cv0v (pc := 61) (c_X8_begins v μ hV) m_X8_begins ml_X8_108 (by omega) (by first | rfl | assumption) rfl rfl (Nat.le_of_ble_eq_true rfl) dX8_count_61 (fun x_61 μ_61 h_61 => ?_)
      obtain ⟨b1, b2, b3⟩ := h_61
      have hW2 := hW.ifm b3
      refine g_aload_n (pc := 64) dX8_count_64 rfl ?_
      refine a_cv0i (pc := 65) (c_X8_creased v _ μ_61 hW2.1 b1.1) m_X8_creased ml_X8_256 (by omega) (by first | rfl | assumption) rfl rfl (Nat.le_of_ble_eq_true rfl) dX8_count_65 (fun x_65 μ_65 h_65 => ?_)
      obtain ⟨rfl, hm_65⟩ := h_65
      have hm_65 := hm_65.symm
      subst hm_65
      refine g_ireturn (pc := 68) dX8_count_68 rfl (by first | rfl | decide) rfl ⟨_, rfl, ?_⟩
      refine ⟨?_, b3⟩
      unfold cntV
      rw [if_neg (by decide), if_neg (by decide), if_neg (by decide), if_neg (by decide), if_pos rfl]
    · have c17 := nI_gt' (by omega) (by omega) c_17
      refine g_iload_n (pc := 20) dX8_count_20 rfl ?_
      refine g_if_ne (pc := 21) (tgt := 31) dX8_count_21 (by decide) (fun c_21 => ?_) (fun c_21 => ?_)
      · have c21 : ¬ j = 0 := fun h => c_21 (by rw [h]; rfl)
        refine g_iload_n (pc := 31) dX8_count_31 rfl ?_
        refine g_iconst (pc := 32) (v := (nI 1)) dX8_count_32 (by decide) ?_
        refine g_icmp_ne (pc := 33) (tgt := 43) dX8_count_33 (by decide) (fun c_33 => ?_) (fun c_33 => ?_)
        · have c33 : ¬ j = 1 := fun h => c_33 (by rw [h])
          refine g_iload_n (pc := 43) dX8_count_43 rfl ?_
          refine g_iconst (pc := 44) (v := (nI 2)) dX8_count_44 (by decide) ?_
          refine g_icmp_ne (pc := 45) (tgt := 55) dX8_count_45 (by decide) (fun c_45 => ?_) (fun c_45 => ?_)
          · have c45 : ¬ j = 2 := fun h => c_45 (by rw [h])
            have c45b : j = 3 := by omega
            refine g_aload_n (pc := 55) dX8_count_55 rfl ?_
            refine v_geti (pc := 56) fl_X8_98 dX8_count_56 (by first | rfl | assumption) rfl v3 ?_
            refine g_ireturn (pc := 59) dX8_count_59 rfl (by first | rfl | decide) rfl ⟨_, rfl, ?_⟩
            refine ⟨?_, IFm.refl _⟩
            unfold cntV
            first
              | (rw [c21, if_pos rfl]; done)
              | (rw [c33, if_neg (by decide), if_pos rfl]; done)
              | (rw [c45, if_neg (by decide), if_neg (by decide), if_pos rfl]; done)
              | (rw [c45b, if_neg (by decide), if_neg (by decide), if_neg (by decide), if_pos rfl]; done)
          · have c45 : j = 2 := nI_eq' (by omega) (by omega) c_45
            refine g_aload_n (pc := 48) dX8_count_48 rfl ?_
            refine v_geti (pc := 49) fl_X8_122 dX8_count_49 (by first | rfl | assumption) rfl ht ?_
            refine g_goto (pc := 52) (tgt := 59) dX8_count_52 (by decide) ?_
            refine g_ireturn (pc := 59) dX8_count_59 rfl (by first | rfl | decide) rfl ⟨_, rfl, ?_⟩
            refine ⟨?_, IFm.refl _⟩
            unfold cntV
            first
              | (rw [c21, if_pos rfl]; done)
              | (rw [c33, if_neg (by decide), if_pos rfl]; done)
              | (rw [c45, if_neg (by decide), if_neg (by decide), if_pos rfl]; done)
              | (rw [c45b, if_neg (by decide), if_neg (by decide), if_neg (by decide), if_pos rfl]; done)
        · have c33 : j = 1 := nI_eq' (by omega) (by omega) c_33
          refine g_aload_n (pc := 36) dX8_count_36 rfl ?_
          refine v_geti (pc := 37) fl_X8_70 dX8_count_37 (by first | rfl | assumption) rfl hTx.1.1 ?_
          refine g_goto (pc := 40) (tgt := 59) dX8_count_40 (by decide) ?_
          refine g_ireturn (pc := 59) dX8_count_59 rfl (by first | rfl | decide) rfl ⟨_, rfl, ?_⟩
          refine ⟨?_, IFm.refl _⟩
          unfold cntV
          first
            | (rw [c21, if_pos rfl]; done)
            | (rw [c33, if_neg (by decide), if_pos rfl]; done)
            | (rw [c45, if_neg (by decide), if_neg (by decide), if_pos rfl]; done)
            | (rw [c45b, if_neg (by decide), if_neg (by decide), if_neg (by decide), if_pos rfl]; done)
      · have c21 : j = 0 := nI_eq' (b := 0) (by omega) (by omega) c_21
        refine g_aload_n (pc := 24) dX8_count_24 rfl ?_
        refine v_geti (pc := 25) fl_X8_73 dX8_count_25 (by first | rfl | assumption) rfl v4 ?_
        refine g_goto (pc := 28) (tgt := 59) dX8_count_28 (by decide) ?_
        refine g_ireturn (pc := 59) dX8_count_59 rfl (by first | rfl | decide) rfl ⟨_, rfl, ?_⟩
        refine ⟨?_, IFm.refl _⟩
        unfold cntV
        first
          | (rw [c21, if_pos rfl]; done)
          | (rw [c33, if_neg (by decide), if_pos rfl]; done)
          | (rw [c45, if_neg (by decide), if_neg (by decide), if_pos rfl]; done)
          | (rw [c45b, if_neg (by decide), if_neg (by decide), if_neg (by decide), if_pos rfl]; done)
  · have c9 := (hd_6.resolve_left (fun q => absurd (q.1.symm.trans c_9) (by decide))).2
    refine g_bipush (pc := 12) (v := (-2)) dX8_count_12 (by decide) ?_
    refine g_ireturn (pc := 14) dX8_count_14 rfl (by first | rfl | decide) rfl ⟨_, rfl, ?_⟩
    refine ⟨?_, IFm.refl _⟩
    unfold cntV
    rw [if_neg (fun h => c9 (by rw [h]; decide)), if_neg (fun h => c9 (by rw [h]; decide)), if_neg (fun h => c9 (by rw [h]; decide)), if_neg (fun h => c9 (by rw [h]; decide)), if_neg (fun h => c9 (by rw [h]; decide))]
