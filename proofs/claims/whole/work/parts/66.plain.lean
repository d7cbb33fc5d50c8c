/-! ===== the model: plain, told, set, part, force, feed ===== -/
theorem chs_notin {b n i : Nat} (h : n ≤ i) : i ∉ chs b n := fun hm => by
  obtain ⟨j, hj⟩ := List.getElem?_of_mem hm
  have := chs_lo b n j i hj
  omega
theorem c_X8_plainBut (v : View) (tc : Nat) (sz : Nat → Nat) (tb : Nat → Nat → Nat) (μ : Mem) (hW : MW μ v tc sz tb) (left : Int32) (b : Nat) (hb : ∀ q, q < 7 → (nI q = left ↔ bitAt b q = 0)) : CA eI yX8_plainBut cX8_plainBut 3 (some .int) 45 [.ref 57, .int left] μ (fun r μ1 => MO μ1 v (QM sz tb (v 0 2)) 9 (chs b (v 0 3)) ∧ r = nI (CR v (QM sz tb (v 0 2)) 9 (chs b (v 0 3))) ∧ IFm μ μ1) := by
  obtain ⟨hV, hTx, hru⟩ := id hW
  obtain ⟨⟨v1, v1b⟩, ⟨v2, v2b⟩, ⟨v3, v3b⟩, ⟨v4, v4b⟩, v5⟩ := id hV
  refine CT.of false (by decide) (by decide) (L := [some (.ref 57), some (.int left), none]) rfl (Nat.le_of_ble_eq_true rfl) ?_
  refine g_aload_n (pc := 0) dX8_plainBut_0 rfl ?_
  refine a_cv0v (pc := 1) (c_X8_begins v μ hV) m_X8_begins ml_X8_108 (by omega) (by first | rfl | assumption) rfl rfl (Nat.le_of_ble_eq_true rfl) dX8_plainBut_1 (fun x_1 μ_1 h_1 => ?_)
  obtain ⟨b1, b2, b3⟩ := h_1
  refine g_iconst (pc := 4) (v := (nI 0)) dX8_plainBut_4 (by decide) ?_
  refine a_ist2 (pc := 5) dX8_plainBut_5 (by decide) rfl ?_
  have lp6 : ∀ (zz : Nat) (i : Nat) (hi : i ≤ v 0 3) (ν : Mem) (hν : MO ν v (QM sz tb (v 0 2)) 9 (chs b i) ∧ IFm μ ν), v 0 3 - i = zz → WG eI yX8_plainBut.cls cX8_plainBut 3 (some .int) false (fun _ _ => True) 45 (mpost (fun r μ1 => MO μ1 v (QM sz tb (v 0 2)) 9 (chs b (v 0 3)) ∧ r = nI (CR v (QM sz tb (v 0 2)) 9 (chs b (v 0 3))) ∧ IFm μ μ1)) 0 0 6 [some (.ref 57), some (.int left), some (.int (nI i))] [] (mk ν) := by
    intro zz
    induction zz using Nat.strongRecOn with
    | ind zz ih =>
      intro i hi ν hν hzz
      obtain ⟨hO, hf⟩ := hν
      have hWν := hW.ifm hf
      have hlen := chs_len b i
      refine g_iload_n (pc := 6) dX8_plainBut_6 rfl ?_
      refine g_aload_n (pc := 7) dX8_plainBut_7 rfl ?_
      refine v_geti (pc := 8) fl_X8_73 dX8_plainBut_8 (by first | rfl | assumption) rfl hWν.1.2.2.2.1.1 ?_
      refine g_icmp_ge (pc := 11) (tgt := 30) dX8_plainBut_11 (by decide) (fun c_11 => ?_) (fun c_11 => ?_)
      · have c11 := nI_le' (by omega) (by omega) c_11
        obtain rfl : i = v 0 3 := by omega
        refine g_aload_n (pc := 30) dX8_plainBut_30 rfl ?_
        refine a_cv0i (pc := 31) (c_X8_creased v _ ν hWν.1 hO.1.1) m_X8_creased ml_X8_256 (by omega) (by first | rfl | assumption) rfl rfl (Nat.le_of_ble_eq_true rfl) dX8_plainBut_31 (fun x_31 μ_31 h_31 => ?_)
        obtain ⟨rfl, hm_31⟩ := h_31
        have hm_31 := hm_31.symm
        subst hm_31
        refine g_ireturn (pc := 34) dX8_plainBut_34 rfl (by first | rfl | decide) rfl ⟨_, rfl, ?_⟩
        exact ⟨hO, rfl, hf⟩
      · have c11 := nI_gt' (by omega) (by omega) c_11
        have hbi := bit_le b i
        refine g_iload_n (pc := 14) dX8_plainBut_14 rfl ?_
        refine g_iload_n (pc := 15) dX8_plainBut_15 rfl ?_
        refine g_icmp_eq (pc := 16) (tgt := 24) dX8_plainBut_16 (by decide) (fun c_16 => ?_) (fun c_16 => ?_)
        · have hb0 := (hb i (by omega)).mp c_16
          have hnx : MO ν v (QM sz tb (v 0 2)) 9 (chs b (i + 1)) ∧ IFm μ ν := by
            rw [chs_succ, if_neg (by omega)]
            exact ⟨hO, hf⟩
          refine a_iinc2 (pc := 24) dX8_plainBut_24 (inc1 i) (by decide) rfl ?_
          refine g_goto (pc := 27) (tgt := 6) dX8_plainBut_27 (by decide) ?_
          exact ih (v 0 3 - (i + 1)) (by omega) (i + 1) (by omega) _ hnx rfl
        · have hb1 : bitAt b i = 1 := by
            have : ¬ bitAt b i = 0 := fun h => c_16 ((hb i (by omega)).mpr h)
            omega
          refine g_aload_n (pc := 19) dX8_plainBut_19 rfl ?_
          refine g_iload_n (pc := 20) dX8_plainBut_20 rfl ?_
          refine a_cv1v (pc := 21) (c_X8_irons v tc sz tb _ _ _ ν hWν hO.1 (MO.mb hWν.1 ((chs_lo b i).le (by omega)) (by omega)) i c11) m_X8_irons ml_X8_252 (by omega) (by first | rfl | assumption) rfl rfl (Nat.le_of_ble_eq_true rfl) dX8_plainBut_21 (fun x_21 μ_21 h_21 => ?_)
          obtain ⟨o9, f9⟩ := hO.go (by omega) (chs_notin (Nat.le_refl i)) h_21
          have hnx : MO μ_21 v (QM sz tb (v 0 2)) 9 (chs b (i + 1)) ∧ IFm μ μ_21 := by
            rw [chs_succ, if_pos hb1]
            exact ⟨o9, hf.trans f9⟩
          refine a_iinc2 (pc := 24) dX8_plainBut_24 (inc1 i) (by decide) rfl ?_
          refine g_goto (pc := 27) (tgt := 6) dX8_plainBut_27 (by decide) ?_
          exact ih (v 0 3 - (i + 1)) (by omega) (i + 1) (by omega) _ hnx rfl
  exact lp6 _ 0 (Nat.zero_le _) _ ⟨MO.nil b1 b2, b3⟩ rfl
theorem left_none : ∀ q, q < 7 → (nI q = (-1 : Int32) ↔ bitAt 127 q = 0) := by decide
theorem left_one : ∀ p, p < 7 → ∀ q, q < 7 → (nI q = nI p ↔ bitAt (127 - 2 ^ p) q = 0) := by decide +kernel
theorem c_X8_isTold (v : View) (tc : Nat) (sz : Nat → Nat) (tb : Nat → Nat → Nat) (μ : Mem) (hW : MW μ v tc sz tb) (w : Int32) : CA eI yX8_isTold cX8_isTold 2 (some .boolean) 2 [.ref 57, .int w] μ (fun r μ1 => μ1 = μ ∧ ((r = nI 1 ∧ okW (v 0 3) w) ∨ (r = nI 0 ∧ ¬ okW (v 0 3) w))) := by
  obtain ⟨hV, hTx, hru⟩ := id hW
  obtain ⟨⟨v1, v1b⟩, ⟨v2, v2b⟩, ⟨v3, v3b⟩, ⟨v4, v4b⟩, v5⟩ := id hV
  refine CT.of false (by decide) (by decide) (L := [some (.ref 57), some (.int w)]) rfl (Nat.le_of_ble_eq_true rfl) ?_
  refine g_iload_n (pc := 0) dX8_isTold_0 rfl ?_
  refine g_i2l (pc := 1) dX8_isTold_1 rfl ?_
  refine g_lconst (pc := 2) (v := 0) dX8_isTold_2 (by decide) ?_
  refine g_lconst (pc := 3) (v := 1) dX8_isTold_3 (by decide) ?_
  refine a_cs3i (pc := 4) (c_X8_in w.toInt64 0 1 μ) m_X8_in ml_X8_76 (by omega) (Nat.le_of_ble_eq_true rfl) dX8_isTold_4 (fun x_4 μ_4 h_4 => ?_)
  obtain ⟨hm_4, hd_4⟩ := h_4
  have hm_4 := hm_4.symm
  subst hm_4
  rw [in_c (x := w) (y := 0) (z := 1) 0 1 rfl rfl (by decide) (by decide)] at hd_4
  refine g_if_ne (pc := 7) (tgt := 35) dX8_isTold_7 (by decide) (fun c_7 => ?_) (fun c_7 => ?_)
  · have c7 := (hd_4.resolve_right (fun q => c_7 q.1)).2
    have hok : okW (v 0 3) w := by
      unfold okW
      omega
    refine g_iconst (pc := 35) (v := (nI 1)) dX8_isTold_35 (by decide) ?_
    refine g_goto (pc := 36) (tgt := 40) dX8_isTold_36 (by decide) ?_
    refine g_ireturn (pc := 40) dX8_isTold_40 rfl (by first | rfl | decide) rfl ⟨_, rfl, ?_⟩
    first | exact ⟨rfl, Or.inl ⟨rfl, hok⟩⟩ | exact ⟨rfl, Or.inr ⟨rfl, hok⟩⟩
  · have c7 := (hd_4.resolve_left (fun q => absurd (q.1.symm.trans c_7) (by decide))).2
    refine g_iload_n (pc := 10) dX8_isTold_10 rfl ?_
    refine g_i2l (pc := 11) dX8_isTold_11 rfl ?_
    refine g_ldc2 (pc := 12) dX8_isTold_12 kc_X8_155 ?_
    refine g_ldc2 (pc := 15) dX8_isTold_15 kc_X8_259 ?_
    refine a_cs3i (pc := 18) (c_X8_in w.toInt64 10 29 μ) m_X8_in ml_X8_76 (by omega) (Nat.le_of_ble_eq_true rfl) dX8_isTold_18 (fun x_18 μ_18 h_18 => ?_)
    obtain ⟨hm_18, hd_18⟩ := h_18
    have hm_18 := hm_18.symm
    subst hm_18
    rw [in_c (x := w) (y := 10) (z := 29) 10 29 rfl rfl (by decide) (by decide)] at hd_18
    refine g_if_eq (pc := 21) (tgt := 39) dX8_isTold_21 (by decide) (fun c_21 => ?_) (fun c_21 => ?_)
    · have c21 := (hd_18.resolve_left (fun q => absurd (q.1.symm.trans c_21) (by decide))).2
      have hok : ¬ okW (v 0 3) w := by
        unfold okW
        omega
      refine g_iconst (pc := 39) (v := (nI 0)) dX8_isTold_39 (by decide) ?_
      refine g_ireturn (pc := 40) dX8_isTold_40 rfl (by first | rfl | decide) rfl ⟨_, rfl, ?_⟩
      first | exact ⟨rfl, Or.inl ⟨rfl, hok⟩⟩ | exact ⟨rfl, Or.inr ⟨rfl, hok⟩⟩
    · have c21 := (hd_18.resolve_right (fun q => c_21 q.1)).2
      have e_j := nx_lt (x := w) (n := 30) (by omega) (by decide)
      generalize j_j : nx w = j at e_j c21 c7
      subst e_j
      refine g_aload_n (pc := 24) dX8_isTold_24 rfl ?_
      refine g_iload_n (pc := 25) dX8_isTold_25 rfl ?_
      refine g_bipush (pc := 26) (v := (nI 10)) dX8_isTold_26 (by decide) ?_
      refine v_irem (pc := 28) dX8_isTold_28 (by decide) (pk_rem (by omega) (by decide) (by decide)) ?_
      refine a_cv1i (pc := 29) (c_X8_isPart (nI (j % 10)) (v 0 3) (by omega) μ v4) m_X8_isPart ml_X8_82 (by omega) (by first | rfl | assumption) rfl rfl (Nat.le_of_ble_eq_true rfl) dX8_isTold_29 (fun x_29 μ_29 h_29 => ?_)
      obtain ⟨hm_29, hd_29⟩ := h_29
      have hm_29 := hm_29.symm
      subst hm_29
      rw [nx_nI (by omega)] at hd_29
      refine g_if_eq (pc := 32) (tgt := 39) dX8_isTold_32 (by decide) (fun c_32 => ?_) (fun c_32 => ?_)
      · have c32 := (hd_29.resolve_left (fun q => absurd (q.1.symm.trans c_32) (by decide))).2
        have hok : ¬ okW (v 0 3) (nI j) := by
          unfold okW
          rw [j_j]
          omega
        refine g_iconst (pc := 39) (v := (nI 0)) dX8_isTold_39 (by decide) ?_
        refine g_ireturn (pc := 40) dX8_isTold_40 rfl (by first | rfl | decide) rfl ⟨_, rfl, ?_⟩
        first | exact ⟨rfl, Or.inl ⟨rfl, hok⟩⟩ | exact ⟨rfl, Or.inr ⟨rfl, hok⟩⟩
      · have c32 := (hd_29.resolve_right (fun q => c_32 q.1)).2
        have hok : okW (v 0 3) (nI j) := by
          unfold okW
          rw [j_j]
          omega
        refine g_iconst (pc := 35) (v := (nI 1)) dX8_isTold_35 (by decide) ?_
        refine g_goto (pc := 36) (tgt := 40) dX8_isTold_36 (by decide) ?_
        refine g_ireturn (pc := 40) dX8_isTold_40 rfl (by first | rfl | decide) rfl ⟨_, rfl, ?_⟩
        first | exact ⟨rfl, Or.inl ⟨rfl, hok⟩⟩ | exact ⟨rfl, Or.inr ⟨rfl, hok⟩⟩
theorem c_X8_tellsOf (v : View) (tc : Nat) (sz : Nat → Nat) (tb : Nat → Nat → Nat) (μ : Mem) (hW : MW μ v tc sz tb) (l : List Nat) (hO : MO μ v (QM sz tb (v 0 2)) 9 l) (j : Nat) (hj : j = 0 ∨ j = 1 ∨ (10 ≤ j ∧ j ≤ 29 ∧ j % 10 < v 0 3)) : CA eI yX8_tellsOf cX8_tellsOf 2 (some .int) 2 [.ref 57, .int (nI j)] μ (fun r μ1 => r = ansV v (stF v (QM sz tb (v 0 2)) 9 l l.length) (stM v (QM sz tb (v 0 2)) 9 l) l j ∧ μ1 = μ) := by
  obtain ⟨hV, hTx, hru⟩ := id hW
  obtain ⟨⟨v1, v1b⟩, ⟨v2, v2b⟩, ⟨v3, v3b⟩, ⟨v4, v4b⟩, v5⟩ := id hV
  refine CT.of false (by decide) (by decide) (L := [some (.ref 57), some (.int (nI j))]) rfl (Nat.le_of_ble_eq_true rfl) ?_
  refine g_iload_n (pc := 0) dX8_tellsOf_0 rfl ?_
  refine g_if_ne (pc := 1) (tgt := 11) dX8_tellsOf_1 (by decide) (fun c_1 => ?_) (fun c_1 => ?_)
  · have c1 : ¬ j = 0 := fun h => c_1 (by rw [h]; rfl)
    refine g_iload_n (pc := 11) dX8_tellsOf_11 rfl ?_
    refine g_iconst (pc := 12) (v := (nI 1)) dX8_tellsOf_12 (by decide) ?_
    refine g_icmp_ne (pc := 13) (tgt := 23) dX8_tellsOf_13 (by decide) (fun c_13 => ?_) (fun c_13 => ?_)
    · have c13 : ¬ j = 1 := fun h => c_13 (by rw [h])
      refine g_iload_n (pc := 23) dX8_tellsOf_23 rfl ?_
      refine g_bipush (pc := 24) (v := (nI 20)) dX8_tellsOf_24 (by decide) ?_
      refine g_icmp_ge (pc := 26) (tgt := 41) dX8_tellsOf_26 (by decide) (fun c_26 => ?_) (fun c_26 => ?_)
      · have c26 := nI_le' (by omega) (by omega) c_26
        refine g_aload_n (pc := 41) dX8_tellsOf_41 rfl ?_
        refine a_getr (pc := 42) (q := 64) fl_X8_38 dX8_tellsOf_42 (by first | rfl | assumption) rfl rfl ?_
        refine g_iload_n (pc := 45) dX8_tellsOf_45 rfl ?_
        refine g_bipush (pc := 46) (v := (nI 20)) dX8_tellsOf_46 (by decide) ?_
        refine v_isub (pc := 48) dX8_tellsOf_48 (pk_sub (by omega)) ?_
        refine v_iald (pc := 49) dX8_tellsOf_49 (by first | rfl | assumption) rfl (by omega) (hO.2 (j - 20) (by omega)) ?_
        refine g_ireturn (pc := 50) dX8_tellsOf_50 rfl (by first | rfl | decide) rfl ⟨_, rfl, ?_⟩
        refine ⟨?_, rfl⟩
        unfold ansV
        first
          | rw [if_pos c1]
          | rw [if_neg c1, if_pos (show j < 10 by omega)]
          | rw [if_neg c1, if_neg (show ¬ j < 10 by omega), if_pos c26, show j % 10 = j - 10 by omega]
          | rw [if_neg c1, if_neg (show ¬ j < 10 by omega), if_neg (show ¬ j < 20 by omega), show j % 10 = j - 20 by omega]
      · have c26 := nI_gt' (by omega) (by omega) c_26
        refine g_aload_n (pc := 29) dX8_tellsOf_29 rfl ?_
        refine a_getr (pc := 30) (q := 63) fl_X8_35 dX8_tellsOf_30 (by first | rfl | assumption) rfl rfl ?_
        refine g_iload_n (pc := 33) dX8_tellsOf_33 rfl ?_
        refine g_bipush (pc := 34) (v := (nI 10)) dX8_tellsOf_34 (by decide) ?_
        refine v_isub (pc := 36) dX8_tellsOf_36 (pk_sub (by omega)) ?_
        refine v_iald (pc := 37) dX8_tellsOf_37 (by first | rfl | assumption) rfl (by omega) (hO.1.1 (j - 10) (by omega)).1 ?_
        refine g_goto (pc := 38) (tgt := 50) dX8_tellsOf_38 (by decide) ?_
        refine g_ireturn (pc := 50) dX8_tellsOf_50 rfl (by first | rfl | decide) rfl ⟨_, rfl, ?_⟩
        refine ⟨?_, rfl⟩
        unfold ansV
        first
          | rw [if_pos c1]
          | rw [if_neg c1, if_pos (show j < 10 by omega)]
          | rw [if_neg c1, if_neg (show ¬ j < 10 by omega), if_pos c26, show j % 10 = j - 10 by omega]
          | rw [if_neg c1, if_neg (show ¬ j < 10 by omega), if_neg (show ¬ j < 20 by omega), show j % 10 = j - 20 by omega]
    · have c13 : j = 1 := nI_eq' (by omega) (by omega) c_13
      refine g_aload_n (pc := 16) dX8_tellsOf_16 rfl ?_
      refine v_geti (pc := 17) fl_X8_239 dX8_tellsOf_17 (by first | rfl | assumption) rfl hO.1.2.1 ?_
      refine g_goto (pc := 20) (tgt := 50) dX8_tellsOf_20 (by decide) ?_
      refine g_ireturn (pc := 50) dX8_tellsOf_50 rfl (by first | rfl | decide) rfl ⟨_, rfl, ?_⟩
      refine ⟨?_, rfl⟩
      unfold ansV
      first
        | rw [if_pos c1]
        | rw [if_neg c1, if_pos (show j < 10 by omega)]
        | rw [if_neg c1, if_neg (show ¬ j < 10 by omega), if_pos c26, show j % 10 = j - 10 by omega]
        | rw [if_neg c1, if_neg (show ¬ j < 10 by omega), if_neg (show ¬ j < 20 by omega), show j % 10 = j - 20 by omega]
  · have c1 : j = 0 := nI_eq' (b := 0) (by omega) (by omega) c_1
    refine g_aload_n (pc := 4) dX8_tellsOf_4 rfl ?_
    refine a_cv0i (pc := 5) (c_X8_creased v _ μ hV hO.1.1) m_X8_creased ml_X8_256 (by omega) (by first | rfl | assumption) rfl rfl (Nat.le_of_ble_eq_true rfl) dX8_tellsOf_5 (fun x_5 μ_5 h_5 => ?_)
    obtain ⟨rfl, hm_5⟩ := h_5
    have hm_5 := hm_5.symm
    subst hm_5
    refine g_goto (pc := 8) (tgt := 50) dX8_tellsOf_8 (by decide) ?_
    refine g_ireturn (pc := 50) dX8_tellsOf_50 rfl (by first | rfl | decide) rfl ⟨_, rfl, ?_⟩
    refine ⟨?_, rfl⟩
    unfold ansV
    first
      | rw [if_pos c1]
      | rw [if_neg c1, if_pos (show j < 10 by omega)]
      | rw [if_neg c1, if_neg (show ¬ j < 10 by omega), if_pos c26, show j % 10 = j - 10 by omega]
      | rw [if_neg c1, if_neg (show ¬ j < 10 by omega), if_neg (show ¬ j < 20 by omega), show j % 10 = j - 20 by omega]
theorem okW_nx {n : Nat} {w : Int32} (h : okW n w) : w = nI (nx w) ∧ (nx w = 0 ∨ nx w = 1 ∨ (10 ≤ nx w ∧ nx w ≤ 29 ∧ nx w % 10 < n)) := ⟨nx_lt (n := 30) (by unfold okW at h; omega) (by decide), h⟩
theorem c_X8_plain (v : View) (tc : Nat) (sz : Nat → Nat) (tb : Nat → Nat → Nat) (μ : Mem) (hW : MW μ v tc sz tb) (w : Int32) : CA eI yX8_plain cX8_plain 2 (some .int) 46 [.ref 57, .int w] μ (fun r μ1 => r = plainV v (QM sz tb (v 0 2)) w ∧ IFm μ μ1) := by
  obtain ⟨hV, hTx, hru⟩ := id hW
  obtain ⟨⟨v1, v1b⟩, ⟨v2, v2b⟩, ⟨v3, v3b⟩, ⟨v4, v4b⟩, v5⟩ := id hV
  refine CT.of false (by decide) (by decide) (L := [some (.ref 57), some (.int w)]) rfl (Nat.le_of_ble_eq_true rfl) ?_
  refine g_aload_n (pc := 0) dX8_plain_0 rfl ?_
  refine g_iload_n (pc := 1) dX8_plain_1 rfl ?_
  refine a_cv1i (pc := 2) (c_X8_isTold v tc sz tb μ hW w) m_X8_isTold ml_X8_261 (by omega) (by first | rfl | assumption) rfl rfl (Nat.le_of_ble_eq_true rfl) dX8_plain_2 (fun x_2 μ_2 h_2 => ?_)
  obtain ⟨hm_2, hd_2⟩ := h_2
  have hm_2 := hm_2.symm
  subst hm_2
  refine g_if_ne (pc := 5) (tgt := 11) dX8_plain_5 (by decide) (fun c_5 => ?_) (fun c_5 => ?_)
  · have c5 := (hd_2.resolve_right (fun q => c_5 q.1)).2
    refine g_aload_n (pc := 11) dX8_plain_11 rfl ?_
    refine g_iconst (pc := 12) (v := (-1)) dX8_plain_12 (by decide) ?_
    refine a_cv1i (pc := 13) (c_X8_plainBut v tc sz tb μ hW (-1) 127 left_none) m_X8_plainBut ml_X8_264 (by omega) (by first | rfl | assumption) rfl rfl (Nat.le_of_ble_eq_true rfl) dX8_plain_13 (fun x_13 μ_13 h_13 => ?_)
    obtain ⟨o13, -, f13⟩ := h_13
    obtain ⟨e_j, b_j⟩ := okW_nx c5
    have hW2 := hW.ifm f13
    refine g_pop (pc := 16) dX8_plain_16 rfl ?_
    have hL9 : (Value.int w) = .int (nI (nx w)) := congrArg Value.int e_j
    rw [hL9]
    refine g_aload_n (pc := 17) dX8_plain_17 rfl ?_
    refine g_iload_n (pc := 18) dX8_plain_18 rfl ?_
    refine a_cv1i (pc := 19) (c_X8_tellsOf v tc sz tb μ_13 hW2 _ o13 (nx w) b_j) m_X8_tellsOf ml_X8_267 (by omega) (by first | rfl | assumption) rfl rfl (Nat.le_of_ble_eq_true rfl) dX8_plain_19 (fun x_19 μ_19 h_19 => ?_)
    obtain ⟨rfl, hm_19⟩ := h_19
    have hm_19 := hm_19.symm
    subst hm_19
    refine g_ireturn (pc := 22) dX8_plain_22 rfl (by first | rfl | decide) rfl ⟨_, rfl, ?_⟩
    exact ⟨(if_pos c5).symm, f13⟩
  · have c5 := (hd_2.resolve_left (fun q => absurd (q.1.symm.trans c_5) (by decide))).2
    refine g_bipush (pc := 8) (v := (-2)) dX8_plain_8 (by decide) ?_
    refine g_ireturn (pc := 10) dX8_plain_10 rfl (by first | rfl | decide) rfl ⟨_, rfl, ?_⟩
    exact ⟨(if_neg c5).symm, IFm.refl _⟩
