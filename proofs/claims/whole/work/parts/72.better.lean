/-! ===== the model: what would be better ===== -/
theorem two_z {w : Int32} (h : nx w ≤ 1) : w = 0 ↔ nx w = 0 := by
  have e := nx_lt (x := w) (n := 2) (by omega) (by decide)
  constructor
  · intro h0
    rw [h0]
    rfl
  · intro h0
    rw [e, h0]
    rfl
theorem two_no {w a b : Int32} (h : ¬ (0 ≤ nx w ∧ nx w ≤ 1)) : (-2 : Int32) = twoV w a b := (if_neg (by omega)).symm
theorem two_0 {w a b : Int32} (h : nx w ≤ 1) (g : w = 0) : a = twoV w a b := ((if_pos (by omega)).trans (if_pos ((two_z h).mp g))).symm
theorem two_1 {w a b : Int32} (h : nx w ≤ 1) (g : ¬ w = 0) : b = twoV w a b := ((if_pos (by omega)).trans (if_neg (fun e => g ((two_z h).mpr e)))).symm
theorem CR_le {v : View} {Q : Nat → List Nat} {sp : Nat} {l : List Nat} (hv : VB v) (hl : LO l (v 0 3)) : CR v Q sp l ≤ 2079 := CR_lt hv hl
theorem offS_le {S : Int32 × Nat} {x : Int32} {b : Nat} (h : S.2 ≤ 2079) : (offS S x b).2 ≤ 2079 := by
  unfold offS
  split
  · show b ≤ 2079
    omega
  · exact h
/-- the parts by numbers, two of them exchanged -/
def exF2 (a b k : Nat) : Nat := if k = a then b else if k = b then a else k
def exL (a b : Nat) : Nat → List Nat
  | 0 => []
  | k + 1 => exL a b k ++ [exF2 a b k]
theorem exL_lem : ∀ n, n < 8 → ∀ b, b < n → ∀ a, a < b → swapL (chs 127 n) a b = exL a b n := by decide +kernel
theorem exL_len (a b : Nat) : ∀ k, (exL a b k).length = k
  | 0 => rfl
  | k + 1 => by
    rw [exL, List.length_append, exL_len a b k]
    rfl
theorem exL_mem {a b x : Nat} : ∀ {k : Nat}, x ∈ exL a b k → ∃ j, j < k ∧ x = exF2 a b j
  | 0, h => absurd h (by simp [exL])
  | k + 1, h => by
    rw [exL] at h
    rcases List.mem_append.mp h with h1 | h1
    · obtain ⟨j, hj, e⟩ := exL_mem h1
      exact ⟨j, by omega, e⟩
    · exact ⟨k, by omega, List.mem_singleton.mp h1⟩
theorem exF2_inj {a b j k : Nat} (h : exF2 a b j = exF2 a b k) : j = k := by
  unfold exF2 at h
  repeat' split at h
  all_goals omega
theorem exF2_lt {a b k n : Nat} (ha : a < n) (hb : b < n) (hk : k < n) : exF2 a b k < n := by
  unfold exF2
  repeat' split
  all_goals omega
theorem exL_new {a b k : Nat} : exF2 a b k ∉ exL a b k := fun h => by
  obtain ⟨j, hj, e⟩ := exL_mem h
  have := exF2_inj e
  omega
theorem exL_lo {a b n : Nat} (ha : a < n) (hb : b < n) : ∀ k, k ≤ n → LO (exL a b k) n
  | 0, _ => fun j x hx => by simp [exL] at hx
  | k + 1, hk => (exL_lo ha hb k (by omega)).snoc (exF2_lt ha hb (by omega))
theorem c_X8_worst (v : View) (tc : Nat) (sz : Nat → Nat) (tb : Nat → Nat → Nat) (μ : Mem) (hW : MW μ v tc sz tb) (w : Int32) : CA eI yX8_worst cX8_worst 3 (some .int) 46 [.ref 57, .int w] μ (fun r μ1 => r = twoV w (nI (CR v (QM sz tb (v 0 2)) 9 (wsL v (v 0 3)))) (nI (dg (wsL v (v 0 3)))) ∧ QFm μ μ1) := by
  obtain ⟨hV, hTx, hru⟩ := id hW
  obtain ⟨⟨v1, v1b⟩, ⟨v2, v2b⟩, ⟨v3, v3b⟩, ⟨v4, v4b⟩, v5⟩ := id hV
  refine CT.of false (by decide) (by decide) (L := [some (.ref 57), some (.int w), none]) rfl (Nat.le_of_ble_eq_true rfl) ?_
  refine g_iload_n (pc := 0) dX8_worst_0 rfl ?_
  refine g_i2l (pc := 1) dX8_worst_1 rfl ?_
  refine g_lconst (pc := 2) (v := 0) dX8_worst_2 (by decide) ?_
  refine g_lconst (pc := 3) (v := 1) dX8_worst_3 (by decide) ?_
  refine a_cs3i (pc := 4) (c_X8_in w.toInt64 0 1 μ) m_X8_in ml_X8_76 (by omega) (Nat.le_of_ble_eq_true rfl) dX8_worst_4 (fun x_4 μ_4 h_4 => ?_)
  obtain ⟨hm_4, hd_4⟩ := h_4
  have hm_4 := hm_4.symm
  subst hm_4
  rw [in_c (x := w) (y := 0) (z := 1) 0 1 rfl rfl (by decide) (by decide)] at hd_4
  refine g_if_ne (pc := 7) (tgt := 13) dX8_worst_7 (by decide) (fun c_7 => ?_) (fun c_7 => ?_)
  · have c7 := (hd_4.resolve_right (fun q => c_7 q.1)).2
    have c7 := c7.2
    refine g_aload_n (pc := 13) dX8_worst_13 rfl ?_
    refine a_cv0i (pc := 14) (c_X8_worstFirst v tc sz tb μ hW) m_X8_worstFirst ml_X8_291 (by omega) (by first | rfl | assumption) rfl rfl (Nat.le_of_ble_eq_true rfl) dX8_worst_14 (fun x_14 μ_14 h_14 => ?_)
    obtain ⟨-, rfl, d14, f14⟩ := h_14
    refine a_ist2 (pc := 17) dX8_worst_17 (by decide) rfl ?_
    refine g_iload_n (pc := 18) dX8_worst_18 rfl ?_
    refine g_if_ne (pc := 19) (tgt := 26) dX8_worst_19 (by decide) (fun c_19 => ?_) (fun c_19 => ?_)
    · refine g_aload_n (pc := 26) dX8_worst_26 rfl ?_
      refine v_geti (pc := 27) fl_X8_288 dX8_worst_27 (by first | rfl | assumption) rfl d14 ?_
      refine g_ireturn (pc := 30) dX8_worst_30 rfl (by first | rfl | decide) rfl ⟨_, rfl, ?_⟩
      first | exact ⟨two_0 c7 c_19, f14.qfm⟩ | exact ⟨two_1 c7 c_19, f14.qfm⟩
    · refine g_iload_n (pc := 22) dX8_worst_22 rfl ?_
      refine g_goto (pc := 23) (tgt := 30) dX8_worst_23 (by decide) ?_
      refine g_ireturn (pc := 30) dX8_worst_30 rfl (by first | rfl | decide) rfl ⟨_, rfl, ?_⟩
      first | exact ⟨two_0 c7 c_19, f14.qfm⟩ | exact ⟨two_1 c7 c_19, f14.qfm⟩
  · have c7 := (hd_4.resolve_left (fun q => absurd (q.1.symm.trans c_7) (by decide))).2
    refine g_bipush (pc := 10) (v := (-2)) dX8_worst_10 (by decide) ?_
    refine g_ireturn (pc := 12) dX8_worst_12 rfl (by first | rfl | decide) rfl ⟨_, rfl, ?_⟩
    exact ⟨two_no c7, QFm.refl μ⟩
theorem c_X8_changed (v : View) (tc : Nat) (sz : Nat → Nat) (tb : Nat → Nat → Nat) (μ : Mem) (hW : MW μ v tc sz tb) (a b : Nat) (ha : a < v 0 3) (hb : b < v 0 3) : CA eI yX8_changed cX8_changed 4 (some .int) 45 [.ref 57, .int (nI a), .int (nI b)] μ (fun r μ1 => r = nI (CR v (QM sz tb (v 0 2)) 9 (exL a b (v 0 3))) ∧ IFm μ μ1) := by
  obtain ⟨hV, hTx, hru⟩ := id hW
  obtain ⟨⟨v1, v1b⟩, ⟨v2, v2b⟩, ⟨v3, v3b⟩, ⟨v4, v4b⟩, v5⟩ := id hV
  refine CT.of false (by decide) (by decide) (L := [some (.ref 57), some (.int (nI a)), some (.int (nI b)), none]) rfl (Nat.le_of_ble_eq_true rfl) ?_
  refine g_aload_n (pc := 0) dX8_changed_0 rfl ?_
  refine a_cv0v (pc := 1) (c_X8_begins v μ hV) m_X8_begins ml_X8_108 (by omega) (by first | rfl | assumption) rfl rfl (Nat.le_of_ble_eq_true rfl) dX8_changed_1 (fun x_1 μ_1 h_1 => ?_)
  obtain ⟨b1, b2, b3⟩ := h_1
  refine g_iconst (pc := 4) (v := (nI 0)) dX8_changed_4 (by decide) ?_
  refine a_ist3 (pc := 5) dX8_changed_5 (by decide) rfl ?_
  have lp6 : ∀ (zz : Nat) (k : Nat) (hk : k ≤ v 0 3) (ν : Mem) (hν : MO ν v (QM sz tb (v 0 2)) 9 (exL a b k) ∧ IFm μ ν), v 0 3 - k = zz → WG eI yX8_changed.cls cX8_changed 4 (some .int) false (fun _ _ => True) 45 (mpost (fun r μ1 => r = nI (CR v (QM sz tb (v 0 2)) 9 (exL a b (v 0 3))) ∧ IFm μ μ1)) 0 0 6 [some (.ref 57), some (.int (nI a)), some (.int (nI b)), some (.int (nI k))] [] (mk ν) := by
    intro zz
    induction zz using Nat.strongRecOn with
    | ind zz ih =>
      intro k hk ν hν hzz
      obtain ⟨hO, hf⟩ := hν
      have hWν := hW.ifm hf
      have hlen := exL_len a b k
      refine g_iload_n (pc := 6) dX8_changed_6 rfl ?_
      refine g_aload_n (pc := 7) dX8_changed_7 rfl ?_
      refine v_geti (pc := 8) fl_X8_73 dX8_changed_8 (by first | rfl | assumption) rfl hWν.1.2.2.2.1.1 ?_
      refine g_icmp_ge (pc := 11) (tgt := 43) dX8_changed_11 (by decide) (fun c_11 => ?_) (fun c_11 => ?_)
      · have c11 := nI_le' (by omega) (by omega) c_11
        obtain rfl : k = v 0 3 := by omega
        refine g_aload_n (pc := 43) dX8_changed_43 rfl ?_
        refine a_cv0i (pc := 44) (c_X8_creased v _ ν hWν.1 hO.1.1) m_X8_creased ml_X8_256 (by omega) (by first | rfl | assumption) rfl rfl (Nat.le_of_ble_eq_true rfl) dX8_changed_44 (fun x_44 μ_44 h_44 => ?_)
        obtain ⟨rfl, hm_44⟩ := h_44
        have hm_44 := hm_44.symm
        subst hm_44
        refine g_ireturn (pc := 47) dX8_changed_47 rfl (by first | rfl | decide) rfl ⟨_, rfl, ?_⟩
        exact ⟨rfl, hf⟩
      · have c11 := nI_gt' (by omega) (by omega) c_11
        have hx := exF2_lt ha hb c11
        refine g_aload_n (pc := 14) dX8_changed_14 rfl ?_
        refine g_iload_n (pc := 15) dX8_changed_15 rfl ?_
        refine g_iload_n (pc := 16) dX8_changed_16 rfl ?_
        refine g_icmp_ne (pc := 17) (tgt := 24) dX8_changed_17 (by decide) (fun c_17 => ?_) (fun c_17 => ?_)
        · have c17 : ¬ k = a := fun h => c_17 (by rw [h])
          refine g_iload_n (pc := 24) dX8_changed_24 rfl ?_
          refine g_iload_n (pc := 25) dX8_changed_25 rfl ?_
          refine g_icmp_ne (pc := 26) (tgt := 33) dX8_changed_26 (by decide) (fun c_26 => ?_) (fun c_26 => ?_)
          · have c26 : ¬ k = b := fun h => c_26 (by rw [h])
            have hxe : k = exF2 a b k := ((if_neg c17).trans (if_neg c26)).symm
            refine g_iload_n (pc := 33) dX8_changed_33 rfl ?_
            have hnew : k ∉ exL a b k := fun h => by
              have h2 := exL_new (a := a) (b := b) (k := k)
              rw [← hxe] at h2
              exact h2 h
            refine a_cv1v (pc := 34) (c_X8_irons v tc sz tb _ _ _ ν hWν hO.1 (MO.mb hWν.1 (exL_lo ha hb k hk) (by omega)) k c11) m_X8_irons ml_X8_252 (by omega) (by first | rfl | assumption) rfl rfl (Nat.le_of_ble_eq_true rfl) dX8_changed_34 (fun x_34 μ_34 h_34 => ?_)
            obtain ⟨o8, f9⟩ := hO.go (by omega) hnew h_34
            have o9 : MO μ_34 v (QM sz tb (v 0 2)) 9 (exL a b (k + 1)) := by
              rw [exL, ← hxe]
              exact o8
            refine a_iinc3 (pc := 37) dX8_changed_37 (inc1 k) (by decide) rfl ?_
            refine g_goto (pc := 40) (tgt := 6) dX8_changed_40 (by decide) ?_
            exact ih (v 0 3 - (k + 1)) (by omega) (k + 1) (by omega) _ ⟨o9, hf.trans f9⟩ rfl
          · have c26 : k = b := nI_eq' (by omega) (by omega) c_26
            have hxe : a = exF2 a b k := ((if_neg c17).trans (if_pos c26)).symm
            refine g_iload_n (pc := 29) dX8_changed_29 rfl ?_
            refine g_goto (pc := 30) (tgt := 34) dX8_changed_30 (by decide) ?_
            have hnew : a ∉ exL a b k := fun h => by
              have h2 := exL_new (a := a) (b := b) (k := k)
              rw [← hxe] at h2
              exact h2 h
            refine a_cv1v (pc := 34) (c_X8_irons v tc sz tb _ _ _ ν hWν hO.1 (MO.mb hWν.1 (exL_lo ha hb k hk) (by omega)) a ha) m_X8_irons ml_X8_252 (by omega) (by first | rfl | assumption) rfl rfl (Nat.le_of_ble_eq_true rfl) dX8_changed_34 (fun x_34 μ_34 h_34 => ?_)
            obtain ⟨o8, f9⟩ := hO.go (by omega) hnew h_34
            have o9 : MO μ_34 v (QM sz tb (v 0 2)) 9 (exL a b (k + 1)) := by
              rw [exL, ← hxe]
              exact o8
            refine a_iinc3 (pc := 37) dX8_changed_37 (inc1 k) (by decide) rfl ?_
            refine g_goto (pc := 40) (tgt := 6) dX8_changed_40 (by decide) ?_
            exact ih (v 0 3 - (k + 1)) (by omega) (k + 1) (by omega) _ ⟨o9, hf.trans f9⟩ rfl
        · have c17 : k = a := nI_eq' (by omega) (by omega) c_17
          have hxe : b = exF2 a b k := (if_pos c17).symm
          refine g_iload_n (pc := 20) dX8_changed_20 rfl ?_
          refine g_goto (pc := 21) (tgt := 34) dX8_changed_21 (by decide) ?_
          have hnew : b ∉ exL a b k := fun h => by
            have h2 := exL_new (a := a) (b := b) (k := k)
            rw [← hxe] at h2
            exact h2 h
          refine a_cv1v (pc := 34) (c_X8_irons v tc sz tb _ _ _ ν hWν hO.1 (MO.mb hWν.1 (exL_lo ha hb k hk) (by omega)) b hb) m_X8_irons ml_X8_252 (by omega) (by first | rfl | assumption) rfl rfl (Nat.le_of_ble_eq_true rfl) dX8_changed_34 (fun x_34 μ_34 h_34 => ?_)
          obtain ⟨o8, f9⟩ := hO.go (by omega) hnew h_34
          have o9 : MO μ_34 v (QM sz tb (v 0 2)) 9 (exL a b (k + 1)) := by
            rw [exL, ← hxe]
            exact o8
          refine a_iinc3 (pc := 37) dX8_changed_37 (inc1 k) (by decide) rfl ?_
          refine g_goto (pc := 40) (tgt := 6) dX8_changed_40 (by decide) ?_
          exact ih (v 0 3 - (k + 1)) (by omega) (k + 1) (by omega) _ ⟨o9, hf.trans f9⟩ rfl
  exact lp6 _ 0 (Nat.zero_le _) _ ⟨MO.nil b1 b2, b3⟩ rfl
theorem c_X8_change (v : View) (tc : Nat) (sz : Nat → Nat) (tb : Nat → Nat → Nat) (μ : Mem) (hW : MW μ v tc sz tb) (w : Int32) : CA eI yX8_change cX8_change 7 (some .int) 46 [.ref 57, .int w] μ (fun r μ1 => r = twoV w (sw1 v (QM sz tb (v 0 2)) (v 0 3)).1 (nI (sw1 v (QM sz tb (v 0 2)) (v 0 3)).2) ∧ QFm μ μ1) := by
  obtain ⟨hV, hTx, hru⟩ := id hW
  obtain ⟨⟨v1, v1b⟩, ⟨v2, v2b⟩, ⟨v3, v3b⟩, ⟨v4, v4b⟩, v5⟩ := id hV
  refine CT.of false (by decide) (by decide) (L := [some (.ref 57), some (.int w), none, none, none, none, none]) rfl (Nat.le_of_ble_eq_true rfl) ?_
  refine g_iload_n (pc := 0) dX8_change_0 rfl ?_
  refine g_i2l (pc := 1) dX8_change_1 rfl ?_
  refine g_lconst (pc := 2) (v := 0) dX8_change_2 (by decide) ?_
  refine g_lconst (pc := 3) (v := 1) dX8_change_3 (by decide) ?_
  refine a_cs3i (pc := 4) (c_X8_in w.toInt64 0 1 μ) m_X8_in ml_X8_76 (by omega) (Nat.le_of_ble_eq_true rfl) dX8_change_4 (fun x_4 μ_4 h_4 => ?_)
  obtain ⟨hm_4, hd_4⟩ := h_4
  have hm_4 := hm_4.symm
  subst hm_4
  rw [in_c (x := w) (y := 0) (z := 1) 0 1 rfl rfl (by decide) (by decide)] at hd_4
  refine g_if_ne (pc := 7) (tgt := 13) dX8_change_7 (by decide) (fun c_7 => ?_) (fun c_7 => ?_)
  · have c7 := (hd_4.resolve_right (fun q => c_7 q.1)).2
    have c7 := c7.2
    refine g_aload_n (pc := 13) dX8_change_13 rfl ?_
    refine g_iconst (pc := 14) (v := (-1)) dX8_change_14 (by decide) ?_
    refine a_cv1i (pc := 15) (c_X8_plainBut v tc sz tb μ hW (-1) 127 left_none) m_X8_plainBut ml_X8_264 (by omega) (by first | rfl | assumption) rfl rfl (Nat.le_of_ble_eq_true rfl) dX8_change_15 (fun x_15 μ_15 h_15 => ?_)
    obtain ⟨-, rfl, f15⟩ := h_15
    have h127 := chs_lo 127 (v 0 3)
    have hcr := CR_le (Q := (QM sz tb (v 0 2))) (sp := 9) hV.vb h127
    refine a_ist2 (pc := 18) dX8_change_18 (by decide) rfl ?_
    refine g_iconst (pc := 19) (v := (-1)) dX8_change_19 (by decide) ?_
    refine a_ist3 (pc := 20) dX8_change_20 (by decide) rfl ?_
    refine g_iconst (pc := 21) (v := (nI 0)) dX8_change_21 (by decide) ?_
    refine a_ist4 (pc := 22) dX8_change_22 (by decide) rfl ?_
    have lp24 : ∀ (zz : Nat) (a : Nat) (ha : a ≤ v 0 3) (hS : (sw1 v (QM sz tb (v 0 2)) a).2 ≤ 2079) (ν : Mem) (hf : IFm μ ν) (l5 l6 : Option Value), v 0 3 - a = zz → WG eI yX8_change.cls cX8_change 7 (some .int) false (fun _ _ => True) 46 (mpost (fun r μ1 => r = twoV w (sw1 v (QM sz tb (v 0 2)) (v 0 3)).1 (nI (sw1 v (QM sz tb (v 0 2)) (v 0 3)).2) ∧ QFm μ μ1)) 0 0 24 [some (.ref 57), some (.int w), some (.int (nI (sw1 v (QM sz tb (v 0 2)) a).2)), some (.int (sw1 v (QM sz tb (v 0 2)) a).1), some (.int (nI a)), l5, l6] [] (mk ν) := by
      intro zz
      induction zz using Nat.strongRecOn with
      | ind zz ih =>
        intro a ha hS ν hf l5 l6 hzz
        have hWν := hW.ifm hf
        refine g_iload (pc := 24) dX8_change_24 rfl ?_
        refine g_aload_n (pc := 26) dX8_change_26 rfl ?_
        refine v_geti (pc := 27) fl_X8_73 dX8_change_27 (by first | rfl | assumption) rfl hWν.1.2.2.2.1.1 ?_
        refine g_icmp_ge (pc := 30) (tgt := 88) dX8_change_30 (by decide) (fun c_30 => ?_) (fun c_30 => ?_)
        · have c30 := nI_le' (by omega) (by omega) c_30
          obtain rfl : a = v 0 3 := by omega
          refine g_iload_n (pc := 88) dX8_change_88 rfl ?_
          refine g_if_ne (pc := 89) (tgt := 96) dX8_change_89 (by decide) (fun c_89 => ?_) (fun c_89 => ?_)
          · refine g_iload_n (pc := 96) dX8_change_96 rfl ?_
            refine g_ireturn (pc := 97) dX8_change_97 rfl (by first | rfl | decide) rfl ⟨_, rfl, ?_⟩
            first | exact ⟨two_0 c7 c_89, hf.qfm⟩ | exact ⟨two_1 c7 c_89, hf.qfm⟩
          · refine g_iload_n (pc := 92) dX8_change_92 rfl ?_
            refine g_goto (pc := 93) (tgt := 97) dX8_change_93 (by decide) ?_
            refine g_ireturn (pc := 97) dX8_change_97 rfl (by first | rfl | decide) rfl ⟨_, rfl, ?_⟩
            first | exact ⟨two_0 c7 c_89, hf.qfm⟩ | exact ⟨two_1 c7 c_89, hf.qfm⟩
        · have c30 := nI_gt' (by omega) (by omega) c_30
          refine g_iload (pc := 33) dX8_change_33 rfl ?_
          refine g_iconst (pc := 35) (v := (nI 1)) dX8_change_35 (by decide) ?_
          refine v_iadd (pc := 36) dX8_change_36 (nI_add a 1) ?_
          refine a_ist5 (pc := 37) dX8_change_37 (by decide) rfl ?_
          have lp39 : ∀ (zz : Nat) (k : Nat) (hk : k ≤ v 0 3 - (a + 1)) (hT : (sw2 v (QM sz tb (v 0 2)) a (sw1 v (QM sz tb (v 0 2)) a) k).2 ≤ 2079) (κ : Mem) (hg : IFm μ κ) (l6 : Option Value), v 0 3 - (a + 1) - k = zz → WG eI yX8_change.cls cX8_change 7 (some .int) false (fun _ _ => True) 46 (mpost (fun r μ1 => r = twoV w (sw1 v (QM sz tb (v 0 2)) (v 0 3)).1 (nI (sw1 v (QM sz tb (v 0 2)) (v 0 3)).2) ∧ QFm μ μ1)) 0 0 39 [some (.ref 57), some (.int w), some (.int (nI (sw2 v (QM sz tb (v 0 2)) a (sw1 v (QM sz tb (v 0 2)) a) k).2)), some (.int (sw2 v (QM sz tb (v 0 2)) a (sw1 v (QM sz tb (v 0 2)) a) k).1), some (.int (nI a)), some (.int (nI (a + 1 + k))), l6] [] (mk κ) := by
            intro zz
            induction zz using Nat.strongRecOn with
            | ind zz ih2 =>
              intro k hk hT κ hg l6 hzz
              have hWκ := hW.ifm hg
              have hrec : sw2 v (QM sz tb (v 0 2)) a (sw1 v (QM sz tb (v 0 2)) a) (k + 1) = offS (sw2 v (QM sz tb (v 0 2)) a (sw1 v (QM sz tb (v 0 2)) a) k) (nI (10 * a + (a + 1 + k))) (CR v (QM sz tb (v 0 2)) 9 (swapL (chs 127 (v 0 3)) a (a + 1 + k))) := rfl
              refine g_iload (pc := 39) dX8_change_39 rfl ?_
              refine g_aload_n (pc := 41) dX8_change_41 rfl ?_
              refine v_geti (pc := 42) fl_X8_73 dX8_change_42 (by first | rfl | assumption) rfl hWκ.1.2.2.2.1.1 ?_
              refine g_icmp_ge (pc := 45) (tgt := 82) dX8_change_45 (by decide) (fun c_45 => ?_) (fun c_45 => ?_)
              · have c45 := nI_le' (by omega) (by omega) c_45
                obtain rfl : k = v 0 3 - (a + 1) := by omega
                have hSn : (sw1 v (QM sz tb (v 0 2)) (a + 1)).2 ≤ 2079 := hT
                refine a_iinc4 (pc := 82) dX8_change_82 (inc1 a) (by decide) rfl ?_
                refine g_goto (pc := 85) (tgt := 24) dX8_change_85 (by decide) ?_
                exact ih (v 0 3 - (a + 1)) (by omega) (a + 1) (by omega) hSn _ hg _ _ rfl
              · have c45 := nI_gt' (by omega) (by omega) c_45
                refine g_aload_n (pc := 48) dX8_change_48 rfl ?_
                refine g_iload (pc := 49) dX8_change_49 rfl ?_
                refine g_iload (pc := 51) dX8_change_51 rfl ?_
                refine a_cv2i (pc := 53) (c_X8_changed v tc sz tb κ hWκ a (a + 1 + k) c30 c45) m_X8_changed ml_X8_294 (by omega) (by first | rfl | assumption) rfl rfl (Nat.le_of_ble_eq_true rfl) dX8_change_53 (fun x_53 μ_53 h_53 => ?_)
                obtain ⟨rfl, f53⟩ := h_53
                have hg2 := hg.trans f53
                have hx9 : CR v (QM sz tb (v 0 2)) 9 (exL a (a + 1 + k) (v 0 3)) ≤ 2079 := CR_le hV.vb (exL_lo c30 c45 _ (Nat.le_refl _))
                rw [exL_lem (v 0 3) (by omega) (a + 1 + k) c45 a (by omega)] at hrec
                obtain ⟨x9, hx8⟩ : ∃ x9, CR v (QM sz tb (v 0 2)) 9 (exL a (a + 1 + k) (v 0 3)) = x9 := ⟨_, rfl⟩
                rw [hx8] at hx9 hrec ⊢
                refine a_ist6 (pc := 56) dX8_change_56 (by decide) rfl ?_
                refine g_iload (pc := 58) dX8_change_58 rfl ?_
                refine g_iload_n (pc := 60) dX8_change_60 rfl ?_
                refine g_icmp_ge (pc := 61) (tgt := 76) dX8_change_61 (by decide) (fun c_61 => ?_) (fun c_61 => ?_)
                · have c61 := nI_le' (by omega) (by omega) c_61
                  have hoff : offS (sw2 v (QM sz tb (v 0 2)) a (sw1 v (QM sz tb (v 0 2)) a) k) (nI (10 * a + (a + 1 + k))) x9 = (sw2 v (QM sz tb (v 0 2)) a (sw1 v (QM sz tb (v 0 2)) a) k) := if_neg (by omega)
                  refine a_iinc5 (pc := 76) dX8_change_76 (inc1 (a + 1 + k)) (by decide) rfl ?_
                  refine g_goto (pc := 79) (tgt := 39) dX8_change_79 (by decide) ?_
                  have hfin := ih2 (v 0 3 - (a + 1) - (k + 1)) (by omega) (k + 1) (by omega) (by rw [hrec]; exact offS_le hT) _ hg2 (some (.int (nI x9))) rfl
                  rw [hrec, hoff] at hfin
                  exact hfin
                · have c61 := nI_gt' (by omega) (by omega) c_61
                  have hoff : offS (sw2 v (QM sz tb (v 0 2)) a (sw1 v (QM sz tb (v 0 2)) a) k) (nI (10 * a + (a + 1 + k))) x9 = (nI (10 * a + (a + 1 + k)), x9) := if_pos c61
                  refine g_bipush (pc := 64) (v := (nI 10)) dX8_change_64 (by decide) ?_
                  refine g_iload (pc := 66) dX8_change_66 rfl ?_
                  refine v_imul (pc := 68) dX8_change_68 (pk_mul 10 a) ?_
                  refine g_iload (pc := 69) dX8_change_69 rfl ?_
                  refine v_iadd (pc := 71) dX8_change_71 (nI_add _ _) ?_
                  refine a_ist3 (pc := 72) dX8_change_72 (by decide) rfl ?_
                  refine g_iload (pc := 73) dX8_change_73 rfl ?_
                  refine a_ist2 (pc := 75) dX8_change_75 (by decide) rfl ?_
                  refine a_iinc5 (pc := 76) dX8_change_76 (inc1 (a + 1 + k)) (by decide) rfl ?_
                  refine g_goto (pc := 79) (tgt := 39) dX8_change_79 (by decide) ?_
                  have hfin := ih2 (v 0 3 - (a + 1) - (k + 1)) (by omega) (k + 1) (by omega) (by rw [hrec]; exact offS_le hT) _ hg2 (some (.int (nI x9))) rfl
                  rw [hrec, hoff] at hfin
                  exact hfin
          exact lp39 _ 0 (Nat.zero_le _) hS _ hf _ rfl
    exact lp24 _ 0 (Nat.zero_le _) hcr _ f15 _ _ rfl
  · have c7 := (hd_4.resolve_left (fun q => absurd (q.1.symm.trans c_7) (by decide))).2
    refine g_bipush (pc := 10) (v := (-2)) dX8_change_10 (by decide) ?_
    refine g_ireturn (pc := 12) dX8_change_12 rfl (by first | rfl | decide) rfl ⟨_, rfl, ?_⟩
    exact ⟨two_no c7, QFm.refl μ⟩
theorem c_X8_leave (v : View) (tc : Nat) (sz : Nat → Nat) (tb : Nat → Nat → Nat) (μ : Mem) (hW : MW μ v tc sz tb) (w : Int32) : CA eI yX8_leave cX8_leave 6 (some .int) 46 [.ref 57, .int w] μ (fun r μ1 => r = twoV w (woS v (QM sz tb (v 0 2)) (v 0 3)).1 (nI (woS v (QM sz tb (v 0 2)) (v 0 3)).2) ∧ QFm μ μ1) := by
  obtain ⟨hV, hTx, hru⟩ := id hW
  obtain ⟨⟨v1, v1b⟩, ⟨v2, v2b⟩, ⟨v3, v3b⟩, ⟨v4, v4b⟩, v5⟩ := id hV
  refine CT.of false (by decide) (by decide) (L := [some (.ref 57), some (.int w), none, none, none, none]) rfl (Nat.le_of_ble_eq_true rfl) ?_
  refine g_iload_n (pc := 0) dX8_leave_0 rfl ?_
  refine g_i2l (pc := 1) dX8_leave_1 rfl ?_
  refine g_lconst (pc := 2) (v := 0) dX8_leave_2 (by decide) ?_
  refine g_lconst (pc := 3) (v := 1) dX8_leave_3 (by decide) ?_
  refine a_cs3i (pc := 4) (c_X8_in w.toInt64 0 1 μ) m_X8_in ml_X8_76 (by omega) (Nat.le_of_ble_eq_true rfl) dX8_leave_4 (fun x_4 μ_4 h_4 => ?_)
  obtain ⟨hm_4, hd_4⟩ := h_4
  have hm_4 := hm_4.symm
  subst hm_4
  rw [in_c (x := w) (y := 0) (z := 1) 0 1 rfl rfl (by decide) (by decide)] at hd_4
  refine g_if_ne (pc := 7) (tgt := 13) dX8_leave_7 (by decide) (fun c_7 => ?_) (fun c_7 => ?_)
  · have c7 := (hd_4.resolve_right (fun q => c_7 q.1)).2
    have c7 := c7.2
    refine g_aload_n (pc := 13) dX8_leave_13 rfl ?_
    refine g_iconst (pc := 14) (v := (-1)) dX8_leave_14 (by decide) ?_
    refine a_cv1i (pc := 15) (c_X8_plainBut v tc sz tb μ hW (-1) 127 left_none) m_X8_plainBut ml_X8_264 (by omega) (by first | rfl | assumption) rfl rfl (Nat.le_of_ble_eq_true rfl) dX8_leave_15 (fun x_15 μ_15 h_15 => ?_)
    obtain ⟨-, rfl, f15⟩ := h_15
    have h127 := chs_lo 127 (v 0 3)
    have hcr := CR_le (Q := (QM sz tb (v 0 2))) (sp := 9) hV.vb h127
    refine a_ist2 (pc := 18) dX8_leave_18 (by decide) rfl ?_
    refine g_iconst (pc := 19) (v := (-1)) dX8_leave_19 (by decide) ?_
    refine a_ist3 (pc := 20) dX8_leave_20 (by decide) rfl ?_
    refine g_iconst (pc := 21) (v := (nI 0)) dX8_leave_21 (by decide) ?_
    refine a_ist4 (pc := 22) dX8_leave_22 (by decide) rfl ?_
    have lp24 : ∀ (zz : Nat) (a : Nat) (ha : a ≤ v 0 3) (hS : (woS v (QM sz tb (v 0 2)) a).2 ≤ 2079) (ν : Mem) (hf : IFm μ ν) (l5 : Option Value), v 0 3 - a = zz → WG eI yX8_leave.cls cX8_leave 6 (some .int) false (fun _ _ => True) 46 (mpost (fun r μ1 => r = twoV w (woS v (QM sz tb (v 0 2)) (v 0 3)).1 (nI (woS v (QM sz tb (v 0 2)) (v 0 3)).2) ∧ QFm μ μ1)) 0 0 24 [some (.ref 57), some (.int w), some (.int (nI (woS v (QM sz tb (v 0 2)) a).2)), some (.int (woS v (QM sz tb (v 0 2)) a).1), some (.int (nI a)), l5] [] (mk ν) := by
      intro zz
      induction zz using Nat.strongRecOn with
      | ind zz ih =>
        intro a ha hS ν hf l5 hzz
        have hWν := hW.ifm hf
        have hrec : woS v (QM sz tb (v 0 2)) (a + 1) = offS (woS v (QM sz tb (v 0 2)) a) (nI a) (CR v (QM sz tb (v 0 2)) 9 (chs (127 - 2 ^ a) (v 0 3))) := rfl
        refine g_iload (pc := 24) dX8_leave_24 rfl ?_
        refine g_aload_n (pc := 26) dX8_leave_26 rfl ?_
        refine v_geti (pc := 27) fl_X8_73 dX8_leave_27 (by first | rfl | assumption) rfl hWν.1.2.2.2.1.1 ?_
        refine g_icmp_ge (pc := 30) (tgt := 59) dX8_leave_30 (by decide) (fun c_30 => ?_) (fun c_30 => ?_)
        · have c30 := nI_le' (by omega) (by omega) c_30
          obtain rfl : a = v 0 3 := by omega
          refine g_iload_n (pc := 59) dX8_leave_59 rfl ?_
          refine g_if_ne (pc := 60) (tgt := 67) dX8_leave_60 (by decide) (fun c_60 => ?_) (fun c_60 => ?_)
          · refine g_iload_n (pc := 67) dX8_leave_67 rfl ?_
            refine g_ireturn (pc := 68) dX8_leave_68 rfl (by first | rfl | decide) rfl ⟨_, rfl, ?_⟩
            first | exact ⟨two_0 c7 c_60, hf.qfm⟩ | exact ⟨two_1 c7 c_60, hf.qfm⟩
          · refine g_iload_n (pc := 63) dX8_leave_63 rfl ?_
            refine g_goto (pc := 64) (tgt := 68) dX8_leave_64 (by decide) ?_
            refine g_ireturn (pc := 68) dX8_leave_68 rfl (by first | rfl | decide) rfl ⟨_, rfl, ?_⟩
            first | exact ⟨two_0 c7 c_60, hf.qfm⟩ | exact ⟨two_1 c7 c_60, hf.qfm⟩
        · have c30 := nI_gt' (by omega) (by omega) c_30
          refine g_aload_n (pc := 33) dX8_leave_33 rfl ?_
          refine g_iload (pc := 34) dX8_leave_34 rfl ?_
          refine a_cv1i (pc := 36) (c_X8_plainBut v tc sz tb ν hWν (nI a) (127 - 2 ^ a) (left_one a (by omega))) m_X8_plainBut ml_X8_264 (by omega) (by first | rfl | assumption) rfl rfl (Nat.le_of_ble_eq_true rfl) dX8_leave_36 (fun x_36 μ_36 h_36 => ?_)
          obtain ⟨-, rfl, f36⟩ := h_36
          have hx9 : CR v (QM sz tb (v 0 2)) 9 (chs (127 - 2 ^ a) (v 0 3)) ≤ 2079 := CR_le hV.vb (chs_lo _ _)
          obtain ⟨x9, hx8⟩ : ∃ x9, CR v (QM sz tb (v 0 2)) 9 (chs (127 - 2 ^ a) (v 0 3)) = x9 := ⟨_, rfl⟩
          rw [hx8] at hx9 hrec ⊢
          refine a_ist5 (pc := 39) dX8_leave_39 (by decide) rfl ?_
          refine g_iload (pc := 41) dX8_leave_41 rfl ?_
          refine g_iload_n (pc := 43) dX8_leave_43 rfl ?_
          refine g_icmp_ge (pc := 44) (tgt := 53) dX8_leave_44 (by decide) (fun c_44 => ?_) (fun c_44 => ?_)
          · have c44 := nI_le' (by omega) (by omega) c_44
            have hoff : offS (woS v (QM sz tb (v 0 2)) a) (nI a) x9 = (woS v (QM sz tb (v 0 2)) a) := if_neg (by omega)
            refine a_iinc4 (pc := 53) dX8_leave_53 (inc1 a) (by decide) rfl ?_
            refine g_goto (pc := 56) (tgt := 24) dX8_leave_56 (by decide) ?_
            have hfin := ih (v 0 3 - (a + 1)) (by omega) (a + 1) (by omega) (by rw [hrec]; exact offS_le hS) _ (hf.trans f36) (some (.int (nI x9))) rfl
            rw [hrec, hoff] at hfin
            exact hfin
          · have c44 := nI_gt' (by omega) (by omega) c_44
            have hoff : offS (woS v (QM sz tb (v 0 2)) a) (nI a) x9 = (nI a, x9) := if_pos c44
            refine g_iload (pc := 47) dX8_leave_47 rfl ?_
            refine a_ist3 (pc := 49) dX8_leave_49 (by decide) rfl ?_
            refine g_iload (pc := 50) dX8_leave_50 rfl ?_
            refine a_ist2 (pc := 52) dX8_leave_52 (by decide) rfl ?_
            refine a_iinc4 (pc := 53) dX8_leave_53 (inc1 a) (by decide) rfl ?_
            refine g_goto (pc := 56) (tgt := 24) dX8_leave_56 (by decide) ?_
            have hfin := ih (v 0 3 - (a + 1)) (by omega) (a + 1) (by omega) (by rw [hrec]; exact offS_le hS) _ (hf.trans f36) (some (.int (nI x9))) rfl
            rw [hrec, hoff] at hfin
            exact hfin
    exact lp24 _ 0 (Nat.zero_le _) hcr _ f15 _ rfl
  · have c7 := (hd_4.resolve_left (fun q => absurd (q.1.symm.trans c_7) (by decide))).2
    refine g_bipush (pc := 10) (v := (-2)) dX8_leave_10 (by decide) ?_
    refine g_ireturn (pc := 12) dX8_leave_12 rfl (by first | rfl | decide) rfl ⟨_, rfl, ?_⟩
    exact ⟨two_no c7, QFm.refl μ⟩
theorem chs127_s : ∀ i, i < 7 → chs 127 (i + 1) = chs 127 i ++ [i] := by decide
theorem MO.dry {μ : Mem} {v : View} {Q : Nat → List Nat} {sp : Nat} {l : List Nat} (h : MO μ v Q sp l) (hV : MVw μ v) (hl : LO l (v 0 3)) : MIr (mset μ 57 30 (nI (stD v Q sp l l.length))) v (stF v Q sp l l.length) (stM v Q sp l l.length) (stD v Q sp l l.length) := by
  have hb := st_bounds (Q := Q) (sp := sp) hV.vb hl l.length (Nat.le_refl _)
  exact ⟨fun p hp => by rw [mset_ne (by omega)]; exact h.1.1 p hp, (mset_nj (by omega)).trans h.1.2.1, mset_eq, hb.2.2.2, h.1.2.2.2.2⟩
theorem c_X8_spray (v : View) (tc : Nat) (sz : Nat → Nat) (tb : Nat → Nat → Nat) (μ : Mem) (hW : MW μ v tc sz tb) (w : Int32) : CA eI yX8_spray cX8_spray 6 (some .int) 46 [.ref 57, .int w] μ (fun r μ1 => r = twoV w (spS v (QM sz tb (v 0 2)) (v 0 3)).1 (nI (spS v (QM sz tb (v 0 2)) (v 0 3)).2) ∧ QFm μ μ1) := by
  obtain ⟨hV, hTx, hru⟩ := id hW
  obtain ⟨⟨v1, v1b⟩, ⟨v2, v2b⟩, ⟨v3, v3b⟩, ⟨v4, v4b⟩, v5⟩ := id hV
  refine CT.of false (by decide) (by decide) (L := [some (.ref 57), some (.int w), none, none, none, none]) rfl (Nat.le_of_ble_eq_true rfl) ?_
  refine g_iload_n (pc := 0) dX8_spray_0 rfl ?_
  refine g_i2l (pc := 1) dX8_spray_1 rfl ?_
  refine g_lconst (pc := 2) (v := 0) dX8_spray_2 (by decide) ?_
  refine g_lconst (pc := 3) (v := 1) dX8_spray_3 (by decide) ?_
  refine a_cs3i (pc := 4) (c_X8_in w.toInt64 0 1 μ) m_X8_in ml_X8_76 (by omega) (Nat.le_of_ble_eq_true rfl) dX8_spray_4 (fun x_4 μ_4 h_4 => ?_)
  obtain ⟨hm_4, hd_4⟩ := h_4
  have hm_4 := hm_4.symm
  subst hm_4
  rw [in_c (x := w) (y := 0) (z := 1) 0 1 rfl rfl (by decide) (by decide)] at hd_4
  refine g_if_ne (pc := 7) (tgt := 13) dX8_spray_7 (by decide) (fun c_7 => ?_) (fun c_7 => ?_)
  · have c7 := (hd_4.resolve_right (fun q => c_7 q.1)).2
    have c7 := c7.2
    refine g_aload_n (pc := 13) dX8_spray_13 rfl ?_
    refine g_iconst (pc := 14) (v := (-1)) dX8_spray_14 (by decide) ?_
    refine a_cv1i (pc := 15) (c_X8_plainBut v tc sz tb μ hW (-1) 127 left_none) m_X8_plainBut ml_X8_264 (by omega) (by first | rfl | assumption) rfl rfl (Nat.le_of_ble_eq_true rfl) dX8_spray_15 (fun x_15 μ_15 h_15 => ?_)
    obtain ⟨-, rfl, f15⟩ := h_15
    have h127 := chs_lo 127 (v 0 3)
    have hcr := CR_le (Q := (QM sz tb (v 0 2))) (sp := 9) hV.vb h127
    refine a_ist2 (pc := 18) dX8_spray_18 (by decide) rfl ?_
    refine g_iconst (pc := 19) (v := (-1)) dX8_spray_19 (by decide) ?_
    refine a_ist3 (pc := 20) dX8_spray_20 (by decide) rfl ?_
    refine g_iconst (pc := 21) (v := (nI 0)) dX8_spray_21 (by decide) ?_
    refine a_ist4 (pc := 22) dX8_spray_22 (by decide) rfl ?_
    have lp24 : ∀ (zz : Nat) (a : Nat) (ha : a ≤ v 0 3) (hS : (spS v (QM sz tb (v 0 2)) a).2 ≤ 2079) (ν : Mem) (hf : IFm μ ν) (l5 : Option Value), v 0 3 - a = zz → WG eI yX8_spray.cls cX8_spray 6 (some .int) false (fun _ _ => True) 46 (mpost (fun r μ1 => r = twoV w (spS v (QM sz tb (v 0 2)) (v 0 3)).1 (nI (spS v (QM sz tb (v 0 2)) (v 0 3)).2) ∧ QFm μ μ1)) 0 0 24 [some (.ref 57), some (.int w), some (.int (nI (spS v (QM sz tb (v 0 2)) a).2)), some (.int (spS v (QM sz tb (v 0 2)) a).1), some (.int (nI a)), l5] [] (mk ν) := by
      intro zz
      induction zz using Nat.strongRecOn with
      | ind zz ih =>
        intro a ha hS ν hf l5 hzz
        have hWν := hW.ifm hf
        have hrec : spS v (QM sz tb (v 0 2)) (a + 1) = offS (spS v (QM sz tb (v 0 2)) a) (nI a) (CR v (QM sz tb (v 0 2)) a (chs 127 (v 0 3))) := rfl
        refine g_iload (pc := 24) dX8_spray_24 rfl ?_
        refine g_aload_n (pc := 26) dX8_spray_26 rfl ?_
        refine v_geti (pc := 27) fl_X8_73 dX8_spray_27 (by first | rfl | assumption) rfl hWν.1.2.2.2.1.1 ?_
        refine g_icmp_ge (pc := 30) (tgt := 105) dX8_spray_30 (by decide) (fun c_30 => ?_) (fun c_30 => ?_)
        · have c30 := nI_le' (by omega) (by omega) c_30
          obtain rfl : a = v 0 3 := by omega
          refine g_iload_n (pc := 105) dX8_spray_105 rfl ?_
          refine g_if_ne (pc := 106) (tgt := 113) dX8_spray_106 (by decide) (fun c_106 => ?_) (fun c_106 => ?_)
          · refine g_iload_n (pc := 113) dX8_spray_113 rfl ?_
            refine g_ireturn (pc := 114) dX8_spray_114 rfl (by first | rfl | decide) rfl ⟨_, rfl, ?_⟩
            first | exact ⟨two_0 c7 c_106, hf.qfm⟩ | exact ⟨two_1 c7 c_106, hf.qfm⟩
          · refine g_iload_n (pc := 109) dX8_spray_109 rfl ?_
            refine g_goto (pc := 110) (tgt := 114) dX8_spray_110 (by decide) ?_
            refine g_ireturn (pc := 114) dX8_spray_114 rfl (by first | rfl | decide) rfl ⟨_, rfl, ?_⟩
            first | exact ⟨two_0 c7 c_106, hf.qfm⟩ | exact ⟨two_1 c7 c_106, hf.qfm⟩
        · have c30 := nI_gt' (by omega) (by omega) c_30
          refine g_aload_n (pc := 33) dX8_spray_33 rfl ?_
          refine a_cv0v (pc := 34) (c_X8_begins v ν hWν.1) m_X8_begins ml_X8_108 (by omega) (by first | rfl | assumption) rfl rfl (Nat.le_of_ble_eq_true rfl) dX8_spray_34 (fun x_34 μ_34 h_34 => ?_)
          obtain ⟨b1, b2, b3⟩ := h_34
          refine g_iconst (pc := 37) (v := (nI 0)) dX8_spray_37 (by decide) ?_
          refine a_ist5 (pc := 38) dX8_spray_38 (by decide) rfl ?_
          have lp40 : ∀ (zz : Nat) (i : Nat) (hi : i ≤ v 0 3) (κ : Mem) (hκ : MO κ v (QM sz tb (v 0 2)) a (chs 127 i) ∧ IFm μ κ), v 0 3 - i = zz → WG eI yX8_spray.cls cX8_spray 6 (some .int) false (fun _ _ => True) 46 (mpost (fun r μ1 => r = twoV w (spS v (QM sz tb (v 0 2)) (v 0 3)).1 (nI (spS v (QM sz tb (v 0 2)) (v 0 3)).2) ∧ QFm μ μ1)) 0 0 40 [some (.ref 57), some (.int w), some (.int (nI (spS v (QM sz tb (v 0 2)) a).2)), some (.int (spS v (QM sz tb (v 0 2)) a).1), some (.int (nI a)), some (.int (nI i))] [] (mk κ) := by
            intro zz
            induction zz using Nat.strongRecOn with
            | ind zz ih2 =>
              intro i hi κ hκ hzz
              obtain ⟨hO, hg⟩ := hκ
              have hWκ := hW.ifm hg
              have hlen := chs127_len i (by omega)
              refine g_iload (pc := 40) dX8_spray_40 rfl ?_
              refine g_aload_n (pc := 42) dX8_spray_42 rfl ?_
              refine v_geti (pc := 43) fl_X8_73 dX8_spray_43 (by first | rfl | assumption) rfl hWκ.1.2.2.2.1.1 ?_
              refine g_icmp_ge (pc := 46) (tgt := 83) dX8_spray_46 (by decide) (fun c_46 => ?_) (fun c_46 => ?_)
              · have c46 := nI_le' (by omega) (by omega) c_46
                obtain rfl : i = v 0 3 := by omega
                have hx9 : CR v (QM sz tb (v 0 2)) a (chs 127 (v 0 3)) ≤ 2079 := CR_le hV.vb (chs_lo _ _)
                refine g_aload_n (pc := 83) dX8_spray_83 rfl ?_
                refine a_cv0i (pc := 84) (c_X8_creased v _ κ hWκ.1 hO.1.1) m_X8_creased ml_X8_256 (by omega) (by first | rfl | assumption) rfl rfl (Nat.le_of_ble_eq_true rfl) dX8_spray_84 (fun x_84 μ_84 h_84 => ?_)
                obtain ⟨rfl, hm_84⟩ := h_84
                have hm_84 := hm_84.symm
                subst hm_84
                obtain ⟨x9, hx8⟩ : ∃ x9, CR v (QM sz tb (v 0 2)) a (chs 127 (v 0 3)) = x9 := ⟨_, rfl⟩
                rw [show csum v (stF v (QM sz tb (v 0 2)) a (chs 127 (v 0 3)) (chs 127 (v 0 3)).length) (v 0 3) = x9 from hx8]
                rw [hx8] at hx9 hrec
                refine g_iload_n (pc := 87) dX8_spray_87 rfl ?_
                refine g_icmp_ge (pc := 88) (tgt := 99) dX8_spray_88 (by decide) (fun c_88 => ?_) (fun c_88 => ?_)
                · have c88 := nI_le' (by omega) (by omega) c_88
                  have hoff : offS (spS v (QM sz tb (v 0 2)) a) (nI a) x9 = (spS v (QM sz tb (v 0 2)) a) := if_neg (by omega)
                  refine a_iinc4 (pc := 99) dX8_spray_99 (inc1 a) (by decide) rfl ?_
                  refine g_goto (pc := 102) (tgt := 24) dX8_spray_102 (by decide) ?_
                  have hfin := ih (v 0 3 - (a + 1)) (by omega) (a + 1) (by omega) (by rw [hrec]; exact offS_le hS) _ hg (some (.int (nI (v 0 3)))) rfl
                  rw [hrec, hoff] at hfin
                  exact hfin
                · have c88 := nI_gt' (by omega) (by omega) c_88
                  have hoff : offS (spS v (QM sz tb (v 0 2)) a) (nI a) x9 = (nI a, x9) := if_pos c88
                  refine g_iload (pc := 91) dX8_spray_91 rfl ?_
                  refine a_ist3 (pc := 93) dX8_spray_93 (by decide) rfl ?_
                  refine g_aload_n (pc := 94) dX8_spray_94 rfl ?_
                  refine a_cv0i (pc := 95) (c_X8_creased v _ κ hWκ.1 hO.1.1) m_X8_creased ml_X8_256 (by omega) (by first | rfl | assumption) rfl rfl (Nat.le_of_ble_eq_true rfl) dX8_spray_95 (fun x_95 μ_95 h_95 => ?_)
                  obtain ⟨rfl, hm_95⟩ := h_95
                  have hm_95 := hm_95.symm
                  subst hm_95
                  rw [show csum v (stF v (QM sz tb (v 0 2)) a (chs 127 (v 0 3)) (chs 127 (v 0 3)).length) (v 0 3) = x9 from hx8]
                  refine a_ist2 (pc := 98) dX8_spray_98 (by decide) rfl ?_
                  refine a_iinc4 (pc := 99) dX8_spray_99 (inc1 a) (by decide) rfl ?_
                  refine g_goto (pc := 102) (tgt := 24) dX8_spray_102 (by decide) ?_
                  have hfin := ih (v 0 3 - (a + 1)) (by omega) (a + 1) (by omega) (by rw [hrec]; exact offS_le hS) _ hg (some (.int (nI (v 0 3)))) rfl
                  rw [hrec, hoff] at hfin
                  exact hfin
              · have c46 := nI_gt' (by omega) (by omega) c_46
                have hlo := (chs_lo 127 i).le (show i ≤ v 0 3 by omega)
                have hdr := hO.dry hWκ.1 hlo
                refine g_aload_n (pc := 49) dX8_spray_49 rfl ?_
                refine g_iload (pc := 50) dX8_spray_50 rfl ?_
                refine g_iload (pc := 52) dX8_spray_52 rfl ?_
                refine g_icmp_ne (pc := 54) (tgt := 64) dX8_spray_54 (by decide) (fun c_54 => ?_) (fun c_54 => ?_)
                · have c54 : ¬ i = a := fun h => c_54 (by rw [h])
                  have hde : (stS v (QM sz tb (v 0 2)) a (chs 127 i) (chs 127 i).length).2.2 = stD v (QM sz tb (v 0 2)) a (chs 127 i) (chs 127 i).length := (if_neg (by omega)).symm
                  refine g_aload_n (pc := 64) dX8_spray_64 rfl ?_
                  refine v_geti (pc := 65) fl_X8_242 dX8_spray_65 (by first | rfl | assumption) rfl hO.1.2.2.1 ?_
                  rw [hde]
                  refine a_puti (pc := 68) fw_X8_242 dX8_spray_68 (by first | rfl | assumption) rfl ?_
                  have fM : IFm κ (mset κ 57 30 (nI (stD v (QM sz tb (v 0 2)) a (chs 127 i) (chs 127 i).length))) := ⟨fun k h1 _ _ => mset_ne h1, fun j hj => mset_nj (by omega)⟩
                  have hW9 := hWκ.ifm fM
                  have hmb := MO.mb (Q := (QM sz tb (v 0 2))) (sp := a) hWκ.1 hlo (by omega)
                  refine g_aload_n (pc := 71) dX8_spray_71 rfl ?_
                  refine g_iload (pc := 72) dX8_spray_72 rfl ?_
                  refine a_cv1v (pc := 74) (c_X8_irons v tc sz tb _ _ _ _ hW9 hdr hmb i c46) m_X8_irons ml_X8_252 (by omega) (by first | rfl | assumption) rfl rfl (Nat.le_of_ble_eq_true rfl) dX8_spray_74 (fun x_74 μ_74 h_74 => ?_)
                  have o9 := MO.snoc (fun q hq => (congrFun (mset_ne (by omega)) q).trans (hO.2 q hq)) h_74.1 h_74.2.1 (chs_notin (Nat.le_refl i))
                  rw [← chs127_s i (by omega)] at o9
                  have g9 := (hg.trans fM).trans h_74.2.2
                  refine a_iinc5 (pc := 77) dX8_spray_77 (inc1 i) (by decide) rfl ?_
                  refine g_goto (pc := 80) (tgt := 40) dX8_spray_80 (by decide) ?_
                  exact ih2 (v 0 3 - (i + 1)) (by omega) (i + 1) (by omega) _ ⟨o9, g9⟩ rfl
                · have c54 : i = a := nI_eq' (by omega) (by omega) c_54
                  have hde : stM v (QM sz tb (v 0 2)) a (chs 127 i) (chs 127 i).length = stD v (QM sz tb (v 0 2)) a (chs 127 i) (chs 127 i).length := (if_pos (by omega)).symm
                  refine g_aload_n (pc := 57) dX8_spray_57 rfl ?_
                  refine v_geti (pc := 58) fl_X8_239 dX8_spray_58 (by first | rfl | assumption) rfl hO.1.2.1 ?_
                  refine g_goto (pc := 61) (tgt := 68) dX8_spray_61 (by decide) ?_
                  rw [hde]
                  refine a_puti (pc := 68) fw_X8_242 dX8_spray_68 (by first | rfl | assumption) rfl ?_
                  have fM : IFm κ (mset κ 57 30 (nI (stD v (QM sz tb (v 0 2)) a (chs 127 i) (chs 127 i).length))) := ⟨fun k h1 _ _ => mset_ne h1, fun j hj => mset_nj (by omega)⟩
                  have hW9 := hWκ.ifm fM
                  have hmb := MO.mb (Q := (QM sz tb (v 0 2))) (sp := a) hWκ.1 hlo (by omega)
                  refine g_aload_n (pc := 71) dX8_spray_71 rfl ?_
                  refine g_iload (pc := 72) dX8_spray_72 rfl ?_
                  refine a_cv1v (pc := 74) (c_X8_irons v tc sz tb _ _ _ _ hW9 hdr hmb i c46) m_X8_irons ml_X8_252 (by omega) (by first | rfl | assumption) rfl rfl (Nat.le_of_ble_eq_true rfl) dX8_spray_74 (fun x_74 μ_74 h_74 => ?_)
                  have o9 := MO.snoc (fun q hq => (congrFun (mset_ne (by omega)) q).trans (hO.2 q hq)) h_74.1 h_74.2.1 (chs_notin (Nat.le_refl i))
                  rw [← chs127_s i (by omega)] at o9
                  have g9 := (hg.trans fM).trans h_74.2.2
                  refine a_iinc5 (pc := 77) dX8_spray_77 (inc1 i) (by decide) rfl ?_
                  refine g_goto (pc := 80) (tgt := 40) dX8_spray_80 (by decide) ?_
                  exact ih2 (v 0 3 - (i + 1)) (by omega) (i + 1) (by omega) _ ⟨o9, g9⟩ rfl
          exact lp40 _ 0 (Nat.zero_le _) _ ⟨MO.nil b1 b2, hf.trans b3⟩ rfl
    exact lp24 _ 0 (Nat.zero_le _) hcr _ f15 _ rfl
  · have c7 := (hd_4.resolve_left (fun q => absurd (q.1.symm.trans c_7) (by decide))).2
    refine g_bipush (pc := 10) (v := (-2)) dX8_spray_10 (by decide) ?_
    refine g_ireturn (pc := 12) dX8_spray_12 rfl (by first | rfl | decide) rfl ⟨_, rfl, ?_⟩
    exact ⟨two_no c7, QFm.refl μ⟩
