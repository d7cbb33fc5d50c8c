/-! ===== the law: its switch, its loop ===== -/
theorem l_tail {N9 : Nat} {xs : Nat → Int32} {k : Nat} {μ : Mem} (kk : WL N9 xs 0 0 18 (Lk (k + 6)) [] (mk μ)) : WL N9 xs 0 0 975 (Lk k) [] (mk μ) := by
  refine g_iinc (pc := 975) (i := 3) (x := nI k) (v := nI (k + 6)) dL_law_975 rfl (nI_add k 6) (by decide) rfl ?_
  exact g_goto (pc := 978) (tgt := 18) dL_law_978 (by decide) kk
theorem and31 (x : Int32) : ∃ j : Nat, j < 32 ∧ x &&& 31 = nI j := by
  refine ⟨(x &&& 31).toBitVec.toNat, ?_, nI_bv _⟩
  show (x.toBitVec &&& (31 : Int32).toBitVec).toNat < 32
  rw [BitVec.toNat_and]
  exact Nat.lt_of_le_of_lt Nat.and_le_right (by decide)
theorem l_switch {N9 : Nat} {xs : Nat → Int32} {k : Nat} {μ : Mem} (hN : N9 ≤ 3072) (hk : k + 6 ≤ N9) (hc : CPL μ) (kk : ∀ μ2, CPL μ2 → WL N9 xs 0 0 975 (Lk k) [] (mk μ2)) : ∀ j, j < 32 → WL N9 xs 0 0 33 (Lk k) [.int (nI j)] (mk μ)
  | 0, _ => g_tableIn (pc := 33) (off := 127) (tgt := 160) dL_law_33 (by decide +kernel) (by decide +kernel) (by decide +kernel) (by decide) (l_set hN hk hc kk)
  | 1, _ => g_tableIn (pc := 33) (off := 170) (tgt := 203) dL_law_33 (by decide +kernel) (by decide +kernel) (by decide +kernel) (by decide) (l_part hN hk hc kk)
  | 2, _ => g_tableIn (pc := 33) (off := 203) (tgt := 236) dL_law_33 (by decide +kernel) (by decide +kernel) (by decide +kernel) (by decide) (l_told hN hk hc kk)
  | 3, _ => g_tableIn (pc := 33) (off := 236) (tgt := 269) dL_law_33 (by decide +kernel) (by decide +kernel) (by decide +kernel) (by decide) (l_iron hN hk hc kk)
  | 4, _ => g_tableIn (pc := 33) (off := 259) (tgt := 292) dL_law_33 (by decide +kernel) (by decide +kernel) (by decide +kernel) (by decide) (l_feed hN hk hc kk)
  | 5, _ => g_tableIn (pc := 33) (off := 282) (tgt := 315) dL_law_33 (by decide +kernel) (by decide +kernel) (by decide +kernel) (by decide) (l_text hN hk hc kk)
  | 6, _ => g_tableIn (pc := 33) (off := 295) (tgt := 328) dL_law_33 (by decide +kernel) (by decide +kernel) (by decide +kernel) (by decide) (l_force hN hk hc kk)
  | 7, _ => g_tableIn (pc := 33) (off := 318) (tgt := 351) dL_law_33 (by decide +kernel) (by decide +kernel) (by decide +kernel) (by decide) (l_plain hN hk hc kk)
  | 8, _ => g_tableIn (pc := 33) (off := 341) (tgt := 374) dL_law_33 (by decide +kernel) (by decide +kernel) (by decide +kernel) (by decide) (l_order hN hk hc kk)
  | 9, _ => g_tableIn (pc := 33) (off := 374) (tgt := 407) dL_law_33 (by decide +kernel) (by decide +kernel) (by decide +kernel) (by decide) (l_best hN hk hc kk)
  | 10, _ => g_tableIn (pc := 33) (off := 397) (tgt := 430) dL_law_33 (by decide +kernel) (by decide +kernel) (by decide +kernel) (by decide) (l_worst hN hk hc kk)
  | 11, _ => g_tableIn (pc := 33) (off := 420) (tgt := 453) dL_law_33 (by decide +kernel) (by decide +kernel) (by decide +kernel) (by decide) (l_change hN hk hc kk)
  | 12, _ => g_tableIn (pc := 33) (off := 443) (tgt := 476) dL_law_33 (by decide +kernel) (by decide +kernel) (by decide +kernel) (by decide) (l_leave hN hk hc kk)
  | 13, _ => g_tableIn (pc := 33) (off := 466) (tgt := 499) dL_law_33 (by decide +kernel) (by decide +kernel) (by decide +kernel) (by decide) (l_spray hN hk hc kk)
  | 14, _ => g_tableIn (pc := 33) (off := 489) (tgt := 522) dL_law_33 (by decide +kernel) (by decide +kernel) (by decide +kernel) (by decide) (l_how hN hk hc kk)
  | 15, _ => g_tableIn (pc := 33) (off := 512) (tgt := 545) dL_law_33 (by decide +kernel) (by decide +kernel) (by decide +kernel) (by decide) (l_enough hN hk hc kk)
  | 16, _ => g_tableIn (pc := 33) (off := 535) (tgt := 568) dL_law_33 (by decide +kernel) (by decide +kernel) (by decide +kernel) (by decide) (l_tells hN hk hc kk)
  | 17, _ => g_tableIn (pc := 33) (off := 568) (tgt := 601) dL_law_33 (by decide +kernel) (by decide +kernel) (by decide +kernel) (by decide) (l_film hN hk hc kk)
  | 18, _ => g_tableIn (pc := 33) (off := 591) (tgt := 624) dL_law_33 (by decide +kernel) (by decide +kernel) (by decide +kernel) (by decide) (l_drawn hN hk hc kk)
  | 19, _ => g_tableIn (pc := 33) (off := 614) (tgt := 647) dL_law_33 (by decide +kernel) (by decide +kernel) (by decide +kernel) (by decide) (l_chance hN hk hc kk)
  | 20, _ => g_tableIn (pc := 33) (off := 658) (tgt := 691) dL_law_33 (by decide +kernel) (by decide +kernel) (by decide +kernel) (by decide) (l_image hN hk hc kk)
  | 21, _ => g_tableIn (pc := 33) (off := 671) (tgt := 704) dL_law_33 (by decide +kernel) (by decide +kernel) (by decide +kernel) (by decide) (l_back hN hk hc kk)
  | 22, _ => g_tableIn (pc := 33) (off := 684) (tgt := 717) dL_law_33 (by decide +kernel) (by decide +kernel) (by decide +kernel) (by decide) (l_count hN hk hc kk)
  | 23, _ => g_tableIn (pc := 33) (off := 707) (tgt := 740) dL_law_33 (by decide +kernel) (by decide +kernel) (by decide +kernel) (by decide) (l_sheet hN hk hc kk)
  | 24, _ => g_tableIn (pc := 33) (off := 750) (tgt := 783) dL_law_33 (by decide +kernel) (by decide +kernel) (by decide +kernel) (by decide) (l_cell hN hk hc kk)
  | 25, _ => g_tableIn (pc := 33) (off := 793) (tgt := 826) dL_law_33 (by decide +kernel) (by decide +kernel) (by decide +kernel) (by decide) (l_copy hN hk hc kk)
  | 26, _ => g_tableIn (pc := 33) (off := 856) (tgt := 889) dL_law_33 (by decide +kernel) (by decide +kernel) (by decide +kernel) (by decide) (l_parts hN hk hc kk)
  | 27, _ => g_tableIn (pc := 33) (off := 909) (tgt := 942) dL_law_33 (by decide +kernel) (by decide +kernel) (by decide +kernel) (by decide) (l_taken hN hk hc kk)
  | 28, _ => g_tableOut (pc := 33) (tgt := 975) dL_law_33 (Or.inr (by decide +kernel)) (by decide) (kk μ hc)
  | 29, _ => g_tableOut (pc := 33) (tgt := 975) dL_law_33 (Or.inr (by decide +kernel)) (by decide) (kk μ hc)
  | 30, _ => g_tableOut (pc := 33) (tgt := 975) dL_law_33 (Or.inr (by decide +kernel)) (by decide) (kk μ hc)
  | 31, _ => g_tableOut (pc := 33) (tgt := 975) dL_law_33 (Or.inr (by decide +kernel)) (by decide) (kk μ hc)
  | n + 32, h => absurd h (by omega)
theorem law_loop {N9 : Nat} {xs : Nat → Int32} (hN : N9 ≤ 3072) : ∀ (n k : Nat), k ≤ N9 → N9 < k + n → ∀ μ, CPL μ → WL N9 xs 0 0 18 (Lk k) [] (mk μ)
  | 0, k, h1, h2, _, _ => absurd h2 (by omega)
  | n + 1, k, h1, h2, μ, hc => by
    refine g_iload_n (pc := 18) (i := 3) (x := nI k) dL_law_18 rfl ?_
    refine g_aload_n (pc := 19) (i := 0) (x := 100099) dL_law_19 rfl ?_
    refine g_xlen (pc := 20) (v := nI N9) rfl dL_law_20 ?_
    refine g_bipush (pc := 21) (v := 6) dL_law_21 (by decide) ?_
    refine g_isub (pc := 23) dL_law_23 ?_
    refine g_icmp_gt (pc := 24) (tgt := 981) dL_law_24 (by decide) (fun c => ?_) (fun c => ?_)
    · refine g_iconst (pc := 981) (v := 1) dL_law_981 (by decide) ?_
      exact g_ireturn (pc := 982) (x := 1) dL_law_982 rfl (by first | rfl | decide) rfl rfl
    · have hk : k + 6 ≤ N9 := by
        have q2 := Int32.le_iff_toInt_le.mp (Int32.not_lt.mp c)
        rw [show (6 : Int32) = nI 6 from rfl, Int32.toInt_sub, nI_toInt (show N9 < 2 ^ 31 by omega), nI_toInt (show k < 2 ^ 31 by omega), nI_toInt (show 6 < 2 ^ 31 by omega)] at q2
        rw [Int.bmod_eq_of_le (by omega) (by omega)] at q2
        omega
      refine g_aload_n (pc := 27) (i := 0) (x := 100099) dL_law_27 rfl ?_
      refine g_iload_n (pc := 28) (i := 3) (x := nI k) dL_law_28 rfl ?_
      refine g_xld (pc := 29) dL_law_29 (nI_in (by omega) (by omega)) ?_
      rw [nI_clamp (show k < 2 ^ 31 by omega)]
      refine g_bipush (pc := 30) (v := 31) dL_law_30 (by decide) ?_
      refine g_iand (pc := 32) dL_law_32 ?_
      obtain ⟨j, hj, e⟩ := and31 (xs k)
      rw [e]
      exact l_switch hN hk hc (fun μ2 h => l_tail (law_loop hN n (k + 6) hk (by omega) μ2 h)) j hj
/-- both objects as they begin -/
theorem mu0_cpl : CPL mu0 := by
  have hx : XW mu0 v0 v0 1 (QM (fun _ => 40) (fun _ => b0)) := by
    obtain ⟨h1, h2, h3, h4, h5, h6, h7, h8⟩ := mu0_xw
    exact ⟨h1, h2, h3, fun t ht e he => by
      have h : CodeOK mu0 t e (P0 e) ∧ Pure1 (P0 e) := h4 t ht e he
      rw [← b0_e he] at h
      exact h, h5, h6, h7, h8⟩
  exact ⟨v0, v0, false, 1, fun _ => 40, fun _ => b0, 0, fun _ => 0, fun _ => -1, fun _ => 0, fun _ _ => 0, ⟨hx, mu0_tp, mu0_za, mu0_im⟩, ⟨mu0_mw, mu0_tpm, mu0_kwm, mu0_zms⟩, CK.rf⟩
theorem hf_X7 : ∀ j, j < 9 → defaultValue (tyX7 j) = vp_V [.null, .null, .null, .null, .null, .null, .null, .null, .int 0] j
  | 0, _ => rfl
  | 1, _ => rfl
  | 2, _ => rfl
  | 3, _ => rfl
  | 4, _ => rfl
  | 5, _ => rfl
  | 6, _ => rfl
  | 7, _ => rfl
  | 8, _ => rfl
  | n + 9, h => absurd h (by omega)
theorem wi_X7 : Cond.instantiable RX7 9 ∈ q_tbl := by decide +kernel
theorem wn_X7 : Cond.initialized RX7 ∈ q_tbl := by decide +kernel
/-- the law from its entry on, over no cell yet -/
theorem law_all {N9 : Nat} {xs : Nat → Int32} (hN : N9 ≤ 3072) : WL N9 xs 72 3199 0 [some (.ref 100099), none, none, none] [] [] := by
  refine g_new (pc := 0) (kc := 71) (ks := 3190) (ci := 6) (N := 9) (C := RX7) (T := TX7) (fs := [.null, .null, .null, .null, .null, .null, .null, .null, .int 0]) tyX7 tyX7_ok rfl cl_L_7 wi_X7 wn_X7 hf_X7 (fun _ => rfl) dL_law_0 (by decide) ?_
  refine g_dup (pc := 3) dL_law_3 rfl ?_
  refine g_callIx (pc := 4) (kc := 15) (ks := 1478) (k := 0) (As := []) (st := [.ref 0]) c_X7_init m_X7_init ml_L_9 (Nat.le_of_ble_eq_true rfl) rfl rfl (Nat.le_of_ble_eq_true rfl) dL_law_4 (fun M' h => ?_)
  refine WG.to (show M' = C57 from h) ?_
  refine g_astore_n (pc := 7) (i := 1) dL_law_7 (by decide) rfl ?_
  refine g_new (pc := 8) (kc := 14) (ks := 1432) (ci := 7) (N := 46) (C := RX8) (T := TX8) (fs := X8d) tyX8 tyX8_ok rfl cl_L_10 wi_X8 wn_X8 hf_X8 (fun _ => rfl) dL_law_8 (by rw [C57_len]; decide) ?_
  rw [C57_len]
  refine g_dup (pc := 11) dL_law_11 rfl ?_
  refine g_callI (d := 100) (pc := 12) (kc := 0) (ks := 0) (mc := 14) (ms := 1432) (k := 57) (As := []) (st := [.ref 57]) (c_X8_init (M := C57 ++ [.inr (7, X8d)]) (k := 57) (by rw [List.getElem?_append_right (by rw [C57_len]; exact Nat.le_refl _), C57_len]; rfl) (by rw [List.length_append, C57_len]; decide)) m_X8_init ml_L_12 (Nat.le_of_ble_eq_true rfl) rfl rfl (Nat.le_of_ble_eq_true rfl) dL_law_12 (fun M' h => ?_)
  have hl : (C57 ++ [(.inr (7, X8d) : AE)]).length = 58 := by rw [List.length_append, C57_len]; rfl
  rw [hl] at h
  refine WG.to (show M' = mk mu0 from Eq.trans h C72_mk) ?_
  refine g_astore_n (pc := 15) (i := 2) dL_law_15 (by decide) rfl ?_
  refine g_iconst (pc := 16) (v := nI 0) dL_law_16 (by decide) ?_
  refine g_istore_n (pc := 17) (i := 3) dL_law_17 (by decide) rfl ?_
  exact law_loop hN (N9 + 1) 0 (Nat.zero_le _) (by omega) mu0 mu0_cpl
