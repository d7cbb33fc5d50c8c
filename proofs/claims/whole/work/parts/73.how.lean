/-! ===== the model: how, enough ===== -/
theorem layM_w {μ : Mem} {w : Nat} {x : Int32} (h : w < 2) : layM μ w 0 x = mset μ 57 (7 + w) x := by
  rcases (show w = 0 ∨ w = 1 by omega) with rfl | rfl
  · rfl
  · rfl
theorem moA_w : ∀ w, w < 2 → moA w = moW w := by decide
theorem itL_w {w : Nat} (h : w < 2) : itL w = w := if_neg (by omega)
theorem MVw.layW {μ : Mem} {v : View} {w x y : Nat} (h : MVw μ (vset v 0 w y)) (hw : w < 2) (hx : x ≤ moW w) : MVw (mset μ 57 (7 + w) (nI x)) (vset v 0 w x) := by
  have h9 := h.lay (j := w) (a := 0) (x := x) (by omega) (fun h1 _ => by omega) (by rw [itL_w hw, moA_w w hw]; exact hx)
  rw [layM_w hw, itL_w hw, show setV (vset v 0 w y) w 0 x = vset v 0 w x by unfold setV; rw [vS_w w hw]; exact vset2 v 0 w y x] at h9
  exact h9
theorem seS_le (v : View) (Q : Nat → List Nat) (hv : VB v) (w : Nat) (hw : w < 2) : ∀ x, x ≤ moW w + 1 → (x = 0 → seS v Q w x = (-1, 2147483647)) ∧ (0 < x → (seS v Q w x).2 ≤ 2079 ∧ ¬ (seS v Q w x).1 = -1)
  | 0, _ => ⟨fun _ => rfl, fun h => by omega⟩
  | x + 1, hx => by
    obtain ⟨h1, h2⟩ := seS_le v Q hv w hw x (by omega)
    have hmo := (moW_s w hw).2
    have hn : vset v 0 w x 0 3 = v 0 3 := vset_ne (by omega)
    have hv9 : VB (vset v 0 w x) := ⟨by rw [hn]; exact hv.1, fun p hp => by
      rw [hn] at hp
      rw [vset_ne (by omega), vset_ne (by omega), vset_ne (by omega), vset_ne (by omega)]
      exact hv.2 p hp⟩
    have hc : CR (vset v 0 w x) Q 9 (chs 127 (v 0 3)) ≤ 2079 := CR_le hv9 (by rw [hn]; exact chs_lo _ _)
    refine ⟨fun h => by omega, fun _ => ?_⟩
    rw [seS]
    unfold offS
    by_cases h0 : x = 0
    · rw [h1 h0, if_pos (show CR (vset v 0 w x) Q 9 (chs 127 (v 0 3)) < 2147483647 by omega)]
      exact ⟨hc, nI_m1 (by omega)⟩
    · obtain ⟨h3, h4⟩ := h2 (by omega)
      split
      · exact ⟨hc, nI_m1 (by omega)⟩
      · exact ⟨h3, h4⟩
theorem c_X8_how (v : View) (tc : Nat) (sz : Nat → Nat) (tb : Nat → Nat → Nat) (μ : Mem) (hW : MW μ v tc sz tb) (w : Int32) : CA eI yX8_how cX8_how 8 (some .int) 46 [.ref 57, .int w] μ (fun r μ1 => r = howV v (QM sz tb (v 0 2)) w ∧ QFm μ μ1) := by
  obtain ⟨hV, hTx, hru⟩ := id hW
  obtain ⟨⟨v1, v1b⟩, ⟨v2, v2b⟩, ⟨v3, v3b⟩, ⟨v4, v4b⟩, v5⟩ := id hV
  refine CT.of false (by decide) (by decide) (L := [some (.ref 57), some (.int w), none, none, none, none, none, none]) rfl (Nat.le_of_ble_eq_true rfl) ?_
  have k42 : ∀ (ww : Nat) (hww : ww < 2) (hwe : ww = if nx w < 2 then 1 else 0) (v9 : μ 57 (7 + ww) = nI (v 0 ww)) (hw3 : nx w ≤ 3), WG eI yX8_how.cls cX8_how 8 (some .int) false (fun _ _ => True) 46 (mpost (fun r μ1 => r = howV v (QM sz tb (v 0 2)) w ∧ QFm μ μ1)) 0 0 42 [some (.ref 57), some (.int w), some (.int (nI ww)), none, none, none, none, none] [.int (nI (v 0 ww))] (mk μ) := by
    intro ww hww hwe v9 hw3
    have hwm := moW_s ww hww
    have hmA := moA_w ww hww
    have hbv := hV.vb
    refine a_ist3 (pc := 42) dX8_how_42 (by decide) rfl ?_
    refine g_iconst (pc := 43) (v := (-1)) dX8_how_43 (by decide) ?_
    refine a_ist4 (pc := 44) dX8_how_44 (by decide) rfl ?_
    refine g_iconst (pc := 46) (v := (nI 0)) dX8_how_46 (by decide) ?_
    refine a_ist5 (pc := 47) dX8_how_47 (by decide) rfl ?_
    refine g_iconst (pc := 49) (v := (nI 0)) dX8_how_49 (by decide) ?_
    refine a_ist6 (pc := 50) dX8_how_50 (by decide) rfl ?_
    have lp52 : ∀ (zz : Nat) (x y : Nat) (hx : x ≤ moW ww + 1) (ν : Mem) (hν : MVw ν (vset v 0 ww y) ∧ (∀ k, k ≠ 57 → k ≠ 63 → k ≠ 64 → ν k = μ k) ∧ ∀ j, j < 12 ∨ 30 < j → j ≠ 7 + ww → ν 57 j = μ 57 j) (l7 : Option Value), moW ww + 1 - x = zz → WG eI yX8_how.cls cX8_how 8 (some .int) false (fun _ _ => True) 46 (mpost (fun r μ1 => r = howV v (QM sz tb (v 0 2)) w ∧ QFm μ μ1)) 0 0 52 [some (.ref 57), some (.int w), some (.int (nI ww)), some (.int (nI (v 0 ww))), some (.int (if x = 0 then -1 else (seS v (QM sz tb (v 0 2)) ww x).1)), some (.int (if x = 0 then nI 0 else nI (seS v (QM sz tb (v 0 2)) ww x).2)), some (.int (nI x)), l7] [] (mk ν) := by
      intro zz
      induction zz using Nat.strongRecOn with
      | ind zz ih =>
        intro x y hx ν hν l7 hzz
        obtain ⟨g1, g2, g3⟩ := hν
        obtain ⟨se1, se2⟩ := seS_le v (QM sz tb (v 0 2)) hbv ww hww x hx
        have hrec : seS v (QM sz tb (v 0 2)) ww (x + 1) = offS (seS v (QM sz tb (v 0 2)) ww x) (nI x) (CR (vset v 0 ww x) (QM sz tb (v 0 2)) 9 (chs 127 (v 0 3))) := rfl
        refine g_iload (pc := 52) dX8_how_52 rfl ?_
        refine g_iload_n (pc := 54) dX8_how_54 rfl ?_
        refine a_cs1i (pc := 55) (c_X8_mostOf ww (by omega) ν) m_X8_mostOf ml_X8_86 (by omega) (Nat.le_of_ble_eq_true rfl) dX8_how_55 (fun x_55 μ_55 h_55 => ?_)
        obtain ⟨rfl, hm_55⟩ := h_55
        have hm_55 := hm_55.symm
        subst hm_55
        rw [hmA]
        refine g_icmp_gt (pc := 58) (tgt := 103) dX8_how_58 (by decide) (fun c_58 => ?_) (fun c_58 => ?_)
        · have c58 := nI_lt' (by omega) (by omega) c_58
          obtain rfl : x = moW ww + 1 := by omega
          rw [if_neg (show ¬ moW ww + 1 = 0 by omega), if_neg (show ¬ moW ww + 1 = 0 by omega)]
          refine g_aload_n (pc := 103) dX8_how_103 rfl ?_
          refine g_iload_n (pc := 104) dX8_how_104 rfl ?_
          refine g_iconst (pc := 105) (v := (nI 0)) dX8_how_105 (by decide) ?_
          refine g_iload_n (pc := 106) dX8_how_106 rfl ?_
          refine a_cv3v (pc := 107) (c_X8_lays ww 0 (by omega) (nI 0) (nI (v 0 ww)) (fun h1 _ => by omega) ν) m_X8_lays ml_X8_94 (by omega) (by first | rfl | assumption) rfl rfl (Nat.le_of_ble_eq_true rfl) dX8_how_107 (fun x_107 μ_107 h_107 => ?_)
          have hm_107 := (show μ_107 = _ from h_107).symm
          rw [layM_w hww] at hm_107
          have f107 : QFm μ μ_107 := by
            rw [← hm_107]
            refine ⟨fun k h1 h2 h3 _ _ => (mset_ne h1).trans (g2 k h1 h2 h3), fun j hj => ?_⟩
            by_cases hj7 : j = 7 + ww
            · rw [hj7, mset_eq]
              exact v9.symm
            · rw [mset_nj hj7]
              exact g3 j (by omega) hj7
          have hw4 : nx w ≤ 3 := hw3
          have e_w := nx_lt (x := w) (n := 4) (by omega) (by decide)
          have hL9 : (Value.int w) = .int (nI (nx w)) := congrArg Value.int e_w
          refine g_iload_n (pc := 110) dX8_how_110 rfl ?_
          rw [hL9]
          refine g_iconst (pc := 111) (v := (nI 2)) dX8_how_111 (by decide) ?_
          refine v_irem (pc := 112) dX8_how_112 (by decide) (pk_rem (by omega) (by decide) (by decide)) ?_
          refine g_if_ne (pc := 113) (tgt := 121) dX8_how_113 (by decide) (fun c_113 => ?_) (fun c_113 => ?_)
          · have cq : ¬ nx w % 2 = 0 := fun h => c_113 (by rw [h]; rfl)
            refine g_iload (pc := 121) dX8_how_121 rfl ?_
            refine g_ireturn (pc := 123) dX8_how_123 rfl (by first | rfl | decide) rfl ⟨_, rfl, ?_⟩
            refine ⟨?_, f107⟩
            unfold howV
            rw [if_pos hw4, ← hwe]
            first | exact (if_pos cq).symm | exact (if_neg cq).symm
          · have cq : nx w % 2 = 0 := nI_eq' (b := 0) (by omega) (by omega) c_113
            refine g_iload (pc := 116) dX8_how_116 rfl ?_
            refine g_goto (pc := 118) (tgt := 123) dX8_how_118 (by decide) ?_
            refine g_ireturn (pc := 123) dX8_how_123 rfl (by first | rfl | decide) rfl ⟨_, rfl, ?_⟩
            refine ⟨?_, f107⟩
            unfold howV
            rw [if_pos hw4, ← hwe]
            first | exact (if_pos cq).symm | exact (if_neg cq).symm
        · have c58 := nI_ge' (by omega) (by omega) c_58
          refine g_aload_n (pc := 61) dX8_how_61 rfl ?_
          refine g_iload_n (pc := 62) dX8_how_62 rfl ?_
          refine g_iconst (pc := 63) (v := (nI 0)) dX8_how_63 (by decide) ?_
          refine g_iload (pc := 64) dX8_how_64 rfl ?_
          refine a_cv3v (pc := 66) (c_X8_lays ww 0 (by omega) (nI 0) (nI x) (fun h1 _ => by omega) ν) m_X8_lays ml_X8_94 (by omega) (by first | rfl | assumption) rfl rfl (Nat.le_of_ble_eq_true rfl) dX8_how_66 (fun x_66 μ_66 h_66 => ?_)
          have hm_66 := (show μ_66 = _ from h_66).symm
          rw [layM_w hww] at hm_66
          have g8 := g1.layW (x := x) hww c58
          rw [hm_66] at g8
          have hru9 : vset v 0 ww x 0 2 = v 0 2 := vset_ne (by omega)
          have hnn9 : vset v 0 ww x 0 3 = v 0 3 := vset_ne (by omega)
          have a9 : ∀ k, k ≠ 57 → μ_66 k = ν k := fun k hk => by rw [← hm_66]; exact mset_ne hk
          have b9 : ∀ j, j ≠ 7 + ww → μ_66 57 j = ν 57 j := fun j hj => by rw [← hm_66]; exact mset_nj hj
          have hW9 : MW μ_66 (vset v 0 ww x) tc sz tb := ⟨g8, hTx.moved ((b9 3 (by omega)).trans (g3 3 (by omega) (by omega))) ((a9 58 (by omega)).trans (g2 58 (by omega) (by omega) (by omega))) ((a9 59 (by omega)).trans (g2 59 (by omega) (by omega) (by omega))), by rw [hru9]; exact hru⟩
          refine g_aload_n (pc := 69) dX8_how_69 rfl ?_
          refine g_iconst (pc := 70) (v := (-1)) dX8_how_70 (by decide) ?_
          refine a_cv1i (pc := 71) (c_X8_plainBut (vset v 0 ww x) tc sz tb μ_66 hW9 (-1) 127 left_none) m_X8_plainBut ml_X8_264 (by omega) (by first | rfl | assumption) rfl rfl (Nat.le_of_ble_eq_true rfl) dX8_how_71 (fun x_71 μ_71 h_71 => ?_)
          obtain ⟨-, rfl, f71⟩ := h_71
          have hx9 : CR (vset v 0 ww x) (QM sz tb (v 0 2)) 9 (chs 127 (v 0 3)) ≤ 2079 := CR_le g8.vb (by rw [hnn9]; exact chs_lo _ _)
          rw [hnn9, hru9]
          obtain ⟨c9x, hx8⟩ : ∃ c, CR (vset v 0 ww x) (QM sz tb (v 0 2)) 9 (chs 127 (v 0 3)) = c := ⟨_, rfl⟩
          rw [hx8] at hx9 hrec ⊢
          have m9 : MVw μ_71 (vset v 0 ww x) := (hW9.ifm f71).1
          have k9 : ∀ k, k ≠ 57 → k ≠ 63 → k ≠ 64 → μ_71 k = μ k := fun k h1 h2 h3 => (f71.1 k h1 h2 h3).trans ((a9 k h1).trans (g2 k h1 h2 h3))
          have j9 : ∀ j, j < 12 ∨ 30 < j → j ≠ 7 + ww → μ_71 57 j = μ 57 j := fun j h1 h2 => (f71.2 j h1).trans ((b9 j h2).trans (g3 j h1 h2))
          refine a_ist7 (pc := 74) dX8_how_74 (by decide) rfl ?_
          refine g_iload (pc := 76) dX8_how_76 rfl ?_
          refine g_iconst (pc := 78) (v := (-1)) dX8_how_78 (by decide) ?_
          refine g_icmp_eq (pc := 79) (tgt := 89) dX8_how_79 (by decide) (fun c_79 => ?_) (fun c_79 => ?_)
          · have h0 : x = 0 := by
              by_cases h : x = 0
              · exact h
              · rw [if_neg h] at c_79
                exact absurd c_79 (se2 (by omega)).2
            have hoff : offS (seS v (QM sz tb (v 0 2)) ww x) (nI x) c9x = (nI x, c9x) := if_pos (by rw [se1 h0]; show c9x < 2147483647; omega)
            refine g_iload (pc := 89) dX8_how_89 rfl ?_
            refine a_ist4 (pc := 91) dX8_how_91 (by decide) rfl ?_
            refine g_iload (pc := 93) dX8_how_93 rfl ?_
            refine a_ist5 (pc := 95) dX8_how_95 (by decide) rfl ?_
            refine a_iinc6 (pc := 97) dX8_how_97 (inc1 x) (by decide) rfl ?_
            refine g_goto (pc := 100) (tgt := 52) dX8_how_100 (by decide) ?_
            have hfin := ih (moW ww + 1 - (x + 1)) (by omega) (x + 1) x (by omega) _ ⟨m9, k9, j9⟩ (some (.int (nI c9x))) rfl
            rw [if_neg (show ¬ x + 1 = 0 by omega), if_neg (show ¬ x + 1 = 0 by omega), hrec, hoff] at hfin
            exact hfin
          · have h0 : ¬ x = 0 := fun h => c_79 (if_pos h)
            rw [if_neg h0, if_neg h0]
            obtain ⟨se3, se4⟩ := se2 (by omega)
            refine g_iload (pc := 82) dX8_how_82 rfl ?_
            refine g_iload (pc := 84) dX8_how_84 rfl ?_
            refine g_icmp_ge (pc := 86) (tgt := 97) dX8_how_86 (by decide) (fun c_86 => ?_) (fun c_86 => ?_)
            · have c86 := nI_le' (by omega) (by omega) c_86
              have hoff : offS (seS v (QM sz tb (v 0 2)) ww x) (nI x) c9x = (seS v (QM sz tb (v 0 2)) ww x) := if_neg (by omega)
              refine a_iinc6 (pc := 97) dX8_how_97 (inc1 x) (by decide) rfl ?_
              refine g_goto (pc := 100) (tgt := 52) dX8_how_100 (by decide) ?_
              have hfin := ih (moW ww + 1 - (x + 1)) (by omega) (x + 1) x (by omega) _ ⟨m9, k9, j9⟩ (some (.int (nI c9x))) rfl
              rw [if_neg (show ¬ x + 1 = 0 by omega), if_neg (show ¬ x + 1 = 0 by omega), hrec, hoff] at hfin
              exact hfin
            · have c86 := nI_gt' (by omega) (by omega) c_86
              have hoff : offS (seS v (QM sz tb (v 0 2)) ww x) (nI x) c9x = (nI x, c9x) := if_pos c86
              refine g_iload (pc := 89) dX8_how_89 rfl ?_
              refine a_ist4 (pc := 91) dX8_how_91 (by decide) rfl ?_
              refine g_iload (pc := 93) dX8_how_93 rfl ?_
              refine a_ist5 (pc := 95) dX8_how_95 (by decide) rfl ?_
              refine a_iinc6 (pc := 97) dX8_how_97 (inc1 x) (by decide) rfl ?_
              refine g_goto (pc := 100) (tgt := 52) dX8_how_100 (by decide) ?_
              have hfin := ih (moW ww + 1 - (x + 1)) (by omega) (x + 1) x (by omega) _ ⟨m9, k9, j9⟩ (some (.int (nI c9x))) rfl
              rw [if_neg (show ¬ x + 1 = 0 by omega), if_neg (show ¬ x + 1 = 0 by omega), hrec, hoff] at hfin
              exact hfin
    exact lp52 _ 0 (v 0 ww) (Nat.zero_le _) _ ⟨by rw [vset_same]; exact hV, fun _ _ _ _ => rfl, fun _ _ _ => rfl⟩ _ rfl
  refine g_iload_n (pc := 0) dX8_how_0 rfl ?_
  refine g_i2l (pc := 1) dX8_how_1 rfl ?_
  refine g_lconst (pc := 2) (v := 0) dX8_how_2 (by decide) ?_
  refine g_ldc2 (pc := 3) dX8_how_3 kc_X8_297 ?_
  refine a_cs3i (pc := 6) (c_X8_in w.toInt64 0 3 μ) m_X8_in ml_X8_76 (by omega) (Nat.le_of_ble_eq_true rfl) dX8_how_6 (fun x_6 μ_6 h_6 => ?_)
  obtain ⟨hm_6, hd_6⟩ := h_6
  have hm_6 := hm_6.symm
  subst hm_6
  rw [in_c (x := w) (y := 0) (z := 3) 0 3 rfl rfl (by decide) (by decide)] at hd_6
  refine g_if_ne (pc := 9) (tgt := 15) dX8_how_9 (by decide) (fun c_9 => ?_) (fun c_9 => ?_)
  · have c9 := (hd_6.resolve_right (fun q => c_9 q.1)).2
    have c9 := c9.2
    have e_w := nx_lt (x := w) (n := 4) (by omega) (by decide)
    obtain ⟨j, hj⟩ : ∃ j, nx w = j := ⟨_, rfl⟩
    rw [hj] at e_w c9
    have hL9 : (Value.int w) = .int (nI j) := congrArg Value.int e_w
    refine g_iload_n (pc := 15) dX8_how_15 rfl ?_
    rw [hL9]
    refine g_iconst (pc := 16) (v := (nI 2)) dX8_how_16 (by decide) ?_
    refine g_icmp_ge (pc := 17) (tgt := 24) dX8_how_17 (by decide) (fun c_17 => ?_) (fun c_17 => ?_)
    · have c17 := nI_le' (by omega) (by omega) c_17
      refine g_iconst (pc := 24) (v := (nI 0)) dX8_how_24 (by decide) ?_
      refine a_ist2 (pc := 25) dX8_how_25 (by decide) rfl ?_
      refine g_iload_n (pc := 26) dX8_how_26 rfl ?_
      refine g_iconst (pc := 27) (v := (nI 1)) dX8_how_27 (by decide) ?_
      refine g_icmp_ne (pc := 28) (tgt := 38) dX8_how_28 (by decide) (fun c_28 => ?_) (fun c_28 => absurd c_28 (by decide))
      refine g_aload_n (pc := 38) dX8_how_38 rfl ?_
      refine v_geti (pc := 39) fl_X8_23 dX8_how_39 (by first | rfl | assumption) rfl v1 ?_
      rw [← hL9]
      exact k42 0 (by decide) (by rw [hj, if_neg (by omega)]) v1 (by omega)
    · have c17 := nI_gt' (by omega) (by omega) c_17
      refine g_iconst (pc := 20) (v := (nI 1)) dX8_how_20 (by decide) ?_
      refine g_goto (pc := 21) (tgt := 25) dX8_how_21 (by decide) ?_
      refine a_ist2 (pc := 25) dX8_how_25 (by decide) rfl ?_
      refine g_iload_n (pc := 26) dX8_how_26 rfl ?_
      refine g_iconst (pc := 27) (v := (nI 1)) dX8_how_27 (by decide) ?_
      refine g_icmp_ne (pc := 28) (tgt := 38) dX8_how_28 (by decide) (fun c_28 => absurd rfl c_28) (fun c_28 => ?_)
      refine g_aload_n (pc := 31) dX8_how_31 rfl ?_
      refine v_geti (pc := 32) fl_X8_26 dX8_how_32 (by first | rfl | assumption) rfl v2 ?_
      refine g_goto (pc := 35) (tgt := 42) dX8_how_35 (by decide) ?_
      rw [← hL9]
      exact k42 1 (by decide) (by rw [hj, if_pos (by omega)]) v2 (by omega)
  · have c9 := (hd_6.resolve_left (fun q => absurd (q.1.symm.trans c_9) (by decide))).2
    refine g_bipush (pc := 12) (v := (-2)) dX8_how_12 (by decide) ?_
    refine g_ireturn (pc := 14) dX8_how_14 rfl (by first | rfl | decide) rfl ⟨_, rfl, ?_⟩
    exact ⟨(if_neg (fun h => c9 ⟨Nat.zero_le _, h⟩)).symm, QFm.refl μ⟩
theorem bo_lem : ∀ x, x < 128 → ¬ x = 0 → nI x &&& (nI x - nI 1) = nI (x &&& (x - 1)) ∧ x &&& (x - 1) < 128 ∧ popc (x &&& (x - 1)) + 1 = popc x ∧ x &&& (x - 1) < x := by decide +kernel
theorem c_X8_bitsOf (b : Nat) (hb : b < 128) (μ : Mem) : CA eI yX8_bitsOf cX8_bitsOf 3 (some .int) 0 [.int (nI b)] μ (fun r μ1 => r = nI (popc b) ∧ μ1 = μ) := by
  refine CT.of false (by decide) (by decide) (L := [some (.int (nI b)), none, none]) rfl (Nat.le_of_ble_eq_true rfl) ?_
  refine g_iconst (pc := 0) (v := (nI 0)) dX8_bitsOf_0 (by decide) ?_
  refine a_ist1 (pc := 1) dX8_bitsOf_1 (by decide) rfl ?_
  refine g_iload_n (pc := 2) dX8_bitsOf_2 rfl ?_
  refine a_ist2 (pc := 3) dX8_bitsOf_3 (by decide) rfl ?_
  have lp4 : ∀ (zz : Nat) (x : Nat) (hx : x < 128) (k : Nat) (hk : k + popc x = popc b), x = zz → WG eI yX8_bitsOf.cls cX8_bitsOf 3 (some .int) false (fun _ _ => True) 0 (mpost (fun r μ1 => r = nI (popc b) ∧ μ1 = μ)) 0 0 4 [some (.int (nI b)), some (.int (nI k)), some (.int (nI x))] [] (mk μ) := by
    intro zz
    induction zz using Nat.strongRecOn with
    | ind zz ih =>
      intro x hx k hk hzz
      refine g_iload_n (pc := 4) dX8_bitsOf_4 rfl ?_
      refine g_if_eq (pc := 5) (tgt := 20) dX8_bitsOf_5 (by decide) (fun c_5 => ?_) (fun c_5 => ?_)
      · have c5 : x = 0 := nI_eq' (b := 0) (by omega) (by omega) c_5
        have hk : k = popc b := by
          rw [c5] at hk
          exact hk
        refine g_iload_n (pc := 20) dX8_bitsOf_20 rfl ?_
        refine g_ireturn (pc := 21) dX8_bitsOf_21 rfl (by first | rfl | decide) rfl ⟨_, rfl, ?_⟩
        exact ⟨by rw [hk], rfl⟩
      · have c5 : ¬ x = 0 := fun h => c_5 (by rw [h]; rfl)
        obtain ⟨y1, y2, y3, y4⟩ := bo_lem x hx c5
        refine a_iinc1 (pc := 8) dX8_bitsOf_8 (inc1 k) (by decide) rfl ?_
        refine g_iload_n (pc := 11) dX8_bitsOf_11 rfl ?_
        refine g_iload_n (pc := 12) dX8_bitsOf_12 rfl ?_
        refine g_iconst (pc := 13) (v := (nI 1)) dX8_bitsOf_13 (by decide) ?_
        refine v_isub (pc := 14) dX8_bitsOf_14 rfl ?_
        refine v_iand (pc := 15) dX8_bitsOf_15 y1 ?_
        refine a_ist2 (pc := 16) dX8_bitsOf_16 (by decide) rfl ?_
        refine g_goto (pc := 17) (tgt := 4) dX8_bitsOf_17 (by decide) ?_
        exact ih (x &&& (x - 1)) (by omega) _ y2 (k + 1) (by omega) rfl
  exact lp4 _ b hb 0 (Nat.zero_add _) rfl
theorem feS_inv (v : View) (Q : Nat → List Nat) (m : Nat) : ∀ i, ((feS v Q m i).1 = -1 ∧ (feS v Q m i).2 = 8) ∨ ∃ b, b < i ∧ (feS v Q m i).1 = nI b ∧ (feS v Q m i).2 = popc b
  | 0 => Or.inl ⟨rfl, rfl⟩
  | i + 1 => by
    rw [feS]
    split
    · exact Or.inr ⟨i, by omega, rfl, rfl⟩
    · rcases feS_inv v Q m i with h | ⟨b, h1, h2⟩
      · exact Or.inl h
      · exact Or.inr ⟨b, by omega, h2⟩
theorem c_X8_enough (v : View) (tc : Nat) (sz : Nat → Nat) (tb : Nat → Nat → Nat) (μ : Mem) (hW : MW μ v tc sz tb) (w : Int32) : CA eI yX8_enough cX8_enough 5 (some .int) 45 [.ref 57, .int w] μ (fun r μ1 => r = enV v (QM sz tb (v 0 2)) w ∧ IFm μ μ1) := by
  obtain ⟨hV, hTx, hru⟩ := id hW
  obtain ⟨⟨v1, v1b⟩, ⟨v2, v2b⟩, ⟨v3, v3b⟩, ⟨v4, v4b⟩, v5⟩ := id hV
  refine CT.of false (by decide) (by decide) (L := [some (.ref 57), some (.int w), none, none, none]) rfl (Nat.le_of_ble_eq_true rfl) ?_
  refine g_iload_n (pc := 0) dX8_enough_0 rfl ?_
  refine g_i2l (pc := 1) dX8_enough_1 rfl ?_
  refine g_lconst (pc := 2) (v := 0) dX8_enough_2 (by decide) ?_
  refine g_ldc2 (pc := 3) dX8_enough_3 kc_X8_299 ?_
  refine a_cs3i (pc := 6) (c_X8_in w.toInt64 0 9999 μ) m_X8_in ml_X8_76 (by omega) (Nat.le_of_ble_eq_true rfl) dX8_enough_6 (fun x_6 μ_6 h_6 => ?_)
  obtain ⟨hm_6, hd_6⟩ := h_6
  have hm_6 := hm_6.symm
  subst hm_6
  rw [in_c (x := w) (y := 0) (z := 9999) 0 9999 rfl rfl (by decide) (by decide)] at hd_6
  refine g_if_ne (pc := 9) (tgt := 15) dX8_enough_9 (by decide) (fun c_9 => ?_) (fun c_9 => ?_)
  · have c9 := (hd_6.resolve_right (fun q => c_9 q.1)).2
    have d9 := c9.2
    have e_w := nx_lt (x := w) (n := 10000) (by omega) (by decide)
    generalize j_m : nx w = m at e_w d9
    subst e_w
    have hpw : 2 ^ v 0 3 ≤ 128 := Nat.pow_le_pow_right (n := 2) (by decide) v4b
    refine g_iconst (pc := 15) (v := (-1)) dX8_enough_15 (by decide) ?_
    refine a_ist2 (pc := 16) dX8_enough_16 (by decide) rfl ?_
    refine g_iconst (pc := 17) (v := (nI 0)) dX8_enough_17 (by decide) ?_
    refine a_ist3 (pc := 18) dX8_enough_18 (by decide) rfl ?_
    have lp19 : ∀ (zz : Nat) (i : Nat) (hi : i ≤ 2 ^ v 0 3) (ν : Mem) (hf : IFm μ ν) (l4 : Option Value), 2 ^ v 0 3 - i = zz → WG eI yX8_enough.cls cX8_enough 5 (some .int) false (fun _ _ => True) 45 (mpost (fun r μ1 => r = enV v (QM sz tb (v 0 2)) (nI m) ∧ IFm μ μ1)) 0 0 19 [some (.ref 57), some (.int (nI m)), some (.int (feS v (QM sz tb (v 0 2)) m i).1), some (.int (nI i)), l4] [] (mk ν) := by
      intro zz
      induction zz using Nat.strongRecOn with
      | ind zz ih =>
        intro i hi ν hf l4 hzz
        have hWν := hW.ifm hf
        have hinv := feS_inv v (QM sz tb (v 0 2)) m i
        have hrec : feS v (QM sz tb (v 0 2)) m (i + 1) = if popc i < (feS v (QM sz tb (v 0 2)) m i).2 ∧ CR v (QM sz tb (v 0 2)) 9 (chs i (v 0 3)) ≤ m then (nI i, popc i) else (feS v (QM sz tb (v 0 2)) m i) := rfl
        refine g_iload_n (pc := 19) dX8_enough_19 rfl ?_
        refine g_iconst (pc := 20) (v := (nI 1)) dX8_enough_20 (by decide) ?_
        refine g_aload_n (pc := 21) dX8_enough_21 rfl ?_
        refine v_geti (pc := 22) fl_X8_73 dX8_enough_22 (by first | rfl | assumption) rfl hWν.1.2.2.2.1.1 ?_
        refine v_ishl (pc := 25) dX8_enough_25 (sh_lem _ (by omega)) ?_
        refine g_icmp_ge (pc := 26) (tgt := 103) dX8_enough_26 (by decide) (fun c_26 => ?_) (fun c_26 => ?_)
        · have c26 := nI_le' (by omega) (by omega) c_26
          obtain rfl : i = 2 ^ v 0 3 := by omega
          refine g_iload_n (pc := 103) dX8_enough_103 rfl ?_
          refine g_ireturn (pc := 104) dX8_enough_104 rfl (by first | rfl | decide) rfl ⟨_, rfl, ?_⟩
          exact ⟨by unfold enV; rw [j_m, if_pos d9], hf⟩
        · have c26 := nI_gt' (by omega) (by omega) c_26
          have hpo := popc_le i (by omega)
          refine g_iload_n (pc := 29) dX8_enough_29 rfl ?_
          refine g_iconst (pc := 30) (v := (-1)) dX8_enough_30 (by decide) ?_
          refine g_icmp_eq (pc := 31) (tgt := 45) dX8_enough_31 (by decide) (fun c_31 => ?_) (fun c_31 => ?_)
          · have hT : popc i < (feS v (QM sz tb (v 0 2)) m i).2 := by
              rcases hinv with h | ⟨b, h1, h2, -⟩
              · omega
              · rw [h2] at c_31
                exact absurd c_31 (nI_m1 (by omega))
            refine g_aload_n (pc := 45) dX8_enough_45 rfl ?_
            refine a_cv0v (pc := 46) (c_X8_begins v ν hWν.1) m_X8_begins ml_X8_108 (by omega) (by first | rfl | assumption) rfl rfl (Nat.le_of_ble_eq_true rfl) dX8_enough_46 (fun x_46 μ_46 h_46 => ?_)
            obtain ⟨b1, b2, b3⟩ := h_46
            refine g_iconst (pc := 49) (v := (nI 0)) dX8_enough_49 (by decide) ?_
            refine a_ist4 (pc := 50) dX8_enough_50 (by decide) rfl ?_
            have lp52 : ∀ (zz : Nat) (p : Nat) (hp : p ≤ v 0 3) (κ : Mem) (hκ : MO κ v (QM sz tb (v 0 2)) 9 (chs i p) ∧ IFm μ κ), v 0 3 - p = zz → WG eI yX8_enough.cls cX8_enough 5 (some .int) false (fun _ _ => True) 45 (mpost (fun r μ1 => r = enV v (QM sz tb (v 0 2)) (nI m) ∧ IFm μ μ1)) 0 0 52 [some (.ref 57), some (.int (nI m)), some (.int (feS v (QM sz tb (v 0 2)) m i).1), some (.int (nI i)), some (.int (nI p))] [] (mk κ) := by
              intro zz
              induction zz using Nat.strongRecOn with
              | ind zz ih2 =>
                intro p hp κ hκ hzz
                obtain ⟨hO, hg⟩ := hκ
                have hWκ := hW.ifm hg
                have hlen := chs_len i p
                have hbp := bit_le i p
                refine g_iload (pc := 52) dX8_enough_52 rfl ?_
                refine g_aload_n (pc := 54) dX8_enough_54 rfl ?_
                refine v_geti (pc := 55) fl_X8_73 dX8_enough_55 (by first | rfl | assumption) rfl hWκ.1.2.2.2.1.1 ?_
                refine g_icmp_ge (pc := 58) (tgt := 83) dX8_enough_58 (by decide) (fun c_58 => ?_) (fun c_58 => ?_)
                · have c58 := nI_le' (by omega) (by omega) c_58
                  obtain rfl : p = v 0 3 := by omega
                  have hcr : CR v (QM sz tb (v 0 2)) 9 (chs i (v 0 3)) ≤ 2079 := CR_le hV.vb (chs_lo _ _)
                  refine g_aload_n (pc := 83) dX8_enough_83 rfl ?_
                  refine a_cv0i (pc := 84) (c_X8_creased v _ κ hWκ.1 hO.1.1) m_X8_creased ml_X8_256 (by omega) (by first | rfl | assumption) rfl rfl (Nat.le_of_ble_eq_true rfl) dX8_enough_84 (fun x_84 μ_84 h_84 => ?_)
                  obtain ⟨rfl, hm_84⟩ := h_84
                  have hm_84 := hm_84.symm
                  subst hm_84
                  obtain ⟨x9, hx8⟩ : ∃ x9, CR v (QM sz tb (v 0 2)) 9 (chs i (v 0 3)) = x9 := ⟨_, rfl⟩
                  rw [show csum v (stF v (QM sz tb (v 0 2)) 9 (chs i (v 0 3)) (chs i (v 0 3)).length) (v 0 3) = x9 from hx8]
                  rw [hx8] at hcr hrec
                  refine g_iload_n (pc := 87) dX8_enough_87 rfl ?_
                  refine g_icmp_gt (pc := 88) (tgt := 95) dX8_enough_88 (by decide) (fun c_88 => ?_) (fun c_88 => ?_)
                  · have c88 := nI_lt' (by omega) (by omega) c_88
                    rw [if_neg (fun q => by omega)] at hrec
                    refine g_iload_n (pc := 95) dX8_enough_95 rfl ?_
                    refine a_ist2 (pc := 96) dX8_enough_96 (by decide) rfl ?_
                    refine a_iinc3 (pc := 97) dX8_enough_97 (inc1 i) (by decide) rfl ?_
                    refine g_goto (pc := 100) (tgt := 19) dX8_enough_100 (by decide) ?_
                    have hfin := ih (2 ^ v 0 3 - (i + 1)) (by omega) (i + 1) (by omega) _ hg (some (.int (nI (v 0 3)))) rfl
                    rw [hrec] at hfin
                    exact hfin
                  · have c88 := nI_ge' (by omega) (by omega) c_88
                    rw [if_pos ⟨hT, c88⟩] at hrec
                    refine g_iload_n (pc := 91) dX8_enough_91 rfl ?_
                    refine g_goto (pc := 92) (tgt := 96) dX8_enough_92 (by decide) ?_
                    refine a_ist2 (pc := 96) dX8_enough_96 (by decide) rfl ?_
                    refine a_iinc3 (pc := 97) dX8_enough_97 (inc1 i) (by decide) rfl ?_
                    refine g_goto (pc := 100) (tgt := 19) dX8_enough_100 (by decide) ?_
                    have hfin := ih (2 ^ v 0 3 - (i + 1)) (by omega) (i + 1) (by omega) _ hg (some (.int (nI (v 0 3)))) rfl
                    rw [hrec] at hfin
                    exact hfin
                · have c58 := nI_gt' (by omega) (by omega) c_58
                  refine g_iload_n (pc := 61) dX8_enough_61 rfl ?_
                  refine g_iload (pc := 62) dX8_enough_62 rfl ?_
                  refine v_ishr (pc := 64) dX8_enough_64 rfl ?_
                  refine g_iconst (pc := 65) (v := (nI 1)) dX8_enough_65 (by decide) ?_
                  refine v_iand (pc := 66) dX8_enough_66 (bit_lem i (by omega) p (by omega)) ?_
                  refine g_iconst (pc := 67) (v := (nI 1)) dX8_enough_67 (by decide) ?_
                  refine g_icmp_ne (pc := 68) (tgt := 77) dX8_enough_68 (by decide) (fun c_68 => ?_) (fun c_68 => ?_)
                  · have hb0 : ¬ bitAt i p = 1 := fun h => c_68 (by rw [h])
                    have hnx : MO κ v (QM sz tb (v 0 2)) 9 (chs i (p + 1)) ∧ IFm μ κ := by
                      rw [chs_succ, if_neg hb0]
                      exact ⟨hO, hg⟩
                    refine a_iinc4 (pc := 77) dX8_enough_77 (inc1 p) (by decide) rfl ?_
                    refine g_goto (pc := 80) (tgt := 52) dX8_enough_80 (by decide) ?_
                    exact ih2 (v 0 3 - (p + 1)) (by omega) (p + 1) (by omega) _ hnx rfl
                  · have hb0 : bitAt i p = 1 := nI_eq' (by omega) (by omega) c_68
                    refine g_aload_n (pc := 71) dX8_enough_71 rfl ?_
                    refine g_iload (pc := 72) dX8_enough_72 rfl ?_
                    refine a_cv1v (pc := 74) (c_X8_irons v tc sz tb _ _ _ κ hWκ hO.1 (MO.mb hWκ.1 ((chs_lo i p).le (by omega)) (by omega)) p c58) m_X8_irons ml_X8_252 (by omega) (by first | rfl | assumption) rfl rfl (Nat.le_of_ble_eq_true rfl) dX8_enough_74 (fun x_74 μ_74 h_74 => ?_)
                    obtain ⟨o9, f9⟩ := hO.go (by omega) (chs_notin (Nat.le_refl p)) h_74
                    have hnx : MO μ_74 v (QM sz tb (v 0 2)) 9 (chs i (p + 1)) ∧ IFm μ μ_74 := by
                      rw [chs_succ, if_pos hb0]
                      exact ⟨o9, hg.trans f9⟩
                    refine a_iinc4 (pc := 77) dX8_enough_77 (inc1 p) (by decide) rfl ?_
                    refine g_goto (pc := 80) (tgt := 52) dX8_enough_80 (by decide) ?_
                    exact ih2 (v 0 3 - (p + 1)) (by omega) (p + 1) (by omega) _ hnx rfl
            exact lp52 _ 0 (Nat.zero_le _) _ ⟨MO.nil b1 b2, hf.trans b3⟩ rfl
          · obtain ⟨b, hbi, hb1, hb2⟩ := hinv.resolve_left (fun q => c_31 q.1)
            have hpb := popc_le b (by omega)
            refine g_iload_n (pc := 34) dX8_enough_34 rfl ?_
            refine a_cs1i (pc := 35) (c_X8_bitsOf i (by omega) ν) m_X8_bitsOf ml_X8_301 (by omega) (Nat.le_of_ble_eq_true rfl) dX8_enough_35 (fun x_35 μ_35 h_35 => ?_)
            obtain ⟨rfl, hm_35⟩ := h_35
            have hm_35 := hm_35.symm
            subst hm_35
            rw [hb1]
            refine g_iload_n (pc := 38) dX8_enough_38 rfl ?_
            refine a_cs1i (pc := 39) (c_X8_bitsOf b (by omega) ν) m_X8_bitsOf ml_X8_301 (by omega) (Nat.le_of_ble_eq_true rfl) dX8_enough_39 (fun x_39 μ_39 h_39 => ?_)
            obtain ⟨rfl, hm_39⟩ := h_39
            have hm_39 := hm_39.symm
            subst hm_39
            rw [← hb1]
            refine g_icmp_ge (pc := 42) (tgt := 97) dX8_enough_42 (by decide) (fun c_42 => ?_) (fun c_42 => ?_)
            · have c42 := nI_le' (by omega) (by omega) c_42
              rw [if_neg (fun q => by omega)] at hrec
              refine a_iinc3 (pc := 97) dX8_enough_97 (inc1 i) (by decide) rfl ?_
              refine g_goto (pc := 100) (tgt := 19) dX8_enough_100 (by decide) ?_
              have hfin := ih (2 ^ v 0 3 - (i + 1)) (by omega) (i + 1) (by omega) _ hf l4 rfl
              rw [hrec] at hfin
              exact hfin
            · have c42 := nI_gt' (by omega) (by omega) c_42
              have hT : popc i < (feS v (QM sz tb (v 0 2)) m i).2 := by omega
              refine g_aload_n (pc := 45) dX8_enough_45 rfl ?_
              refine a_cv0v (pc := 46) (c_X8_begins v ν hWν.1) m_X8_begins ml_X8_108 (by omega) (by first | rfl | assumption) rfl rfl (Nat.le_of_ble_eq_true rfl) dX8_enough_46 (fun x_46 μ_46 h_46 => ?_)
              obtain ⟨b1, b2, b3⟩ := h_46
              refine g_iconst (pc := 49) (v := (nI 0)) dX8_enough_49 (by decide) ?_
              refine a_ist4 (pc := 50) dX8_enough_50 (by decide) rfl ?_
              have lp52 : ∀ (zz : Nat) (p : Nat) (hp : p ≤ v 0 3) (κ : Mem) (hκ : MO κ v (QM sz tb (v 0 2)) 9 (chs i p) ∧ IFm μ κ), v 0 3 - p = zz → WG eI yX8_enough.cls cX8_enough 5 (some .int) false (fun _ _ => True) 45 (mpost (fun r μ1 => r = enV v (QM sz tb (v 0 2)) (nI m) ∧ IFm μ μ1)) 0 0 52 [some (.ref 57), some (.int (nI m)), some (.int (feS v (QM sz tb (v 0 2)) m i).1), some (.int (nI i)), some (.int (nI p))] [] (mk κ) := by
                intro zz
                induction zz using Nat.strongRecOn with
                | ind zz ih2 =>
                  intro p hp κ hκ hzz
                  obtain ⟨hO, hg⟩ := hκ
                  have hWκ := hW.ifm hg
                  have hlen := chs_len i p
                  have hbp := bit_le i p
                  refine g_iload (pc := 52) dX8_enough_52 rfl ?_
                  refine g_aload_n (pc := 54) dX8_enough_54 rfl ?_
                  refine v_geti (pc := 55) fl_X8_73 dX8_enough_55 (by first | rfl | assumption) rfl hWκ.1.2.2.2.1.1 ?_
                  refine g_icmp_ge (pc := 58) (tgt := 83) dX8_enough_58 (by decide) (fun c_58 => ?_) (fun c_58 => ?_)
                  · have c58 := nI_le' (by omega) (by omega) c_58
                    obtain rfl : p = v 0 3 := by omega
                    have hcr : CR v (QM sz tb (v 0 2)) 9 (chs i (v 0 3)) ≤ 2079 := CR_le hV.vb (chs_lo _ _)
                    refine g_aload_n (pc := 83) dX8_enough_83 rfl ?_
                    refine a_cv0i (pc := 84) (c_X8_creased v _ κ hWκ.1 hO.1.1) m_X8_creased ml_X8_256 (by omega) (by first | rfl | assumption) rfl rfl (Nat.le_of_ble_eq_true rfl) dX8_enough_84 (fun x_84 μ_84 h_84 => ?_)
                    obtain ⟨rfl, hm_84⟩ := h_84
                    have hm_84 := hm_84.symm
                    subst hm_84
                    obtain ⟨x9, hx8⟩ : ∃ x9, CR v (QM sz tb (v 0 2)) 9 (chs i (v 0 3)) = x9 := ⟨_, rfl⟩
                    rw [show csum v (stF v (QM sz tb (v 0 2)) 9 (chs i (v 0 3)) (chs i (v 0 3)).length) (v 0 3) = x9 from hx8]
                    rw [hx8] at hcr hrec
                    refine g_iload_n (pc := 87) dX8_enough_87 rfl ?_
                    refine g_icmp_gt (pc := 88) (tgt := 95) dX8_enough_88 (by decide) (fun c_88 => ?_) (fun c_88 => ?_)
                    · have c88 := nI_lt' (by omega) (by omega) c_88
                      rw [if_neg (fun q => by omega)] at hrec
                      refine g_iload_n (pc := 95) dX8_enough_95 rfl ?_
                      refine a_ist2 (pc := 96) dX8_enough_96 (by decide) rfl ?_
                      refine a_iinc3 (pc := 97) dX8_enough_97 (inc1 i) (by decide) rfl ?_
                      refine g_goto (pc := 100) (tgt := 19) dX8_enough_100 (by decide) ?_
                      have hfin := ih (2 ^ v 0 3 - (i + 1)) (by omega) (i + 1) (by omega) _ hg (some (.int (nI (v 0 3)))) rfl
                      rw [hrec] at hfin
                      exact hfin
                    · have c88 := nI_ge' (by omega) (by omega) c_88
                      rw [if_pos ⟨hT, c88⟩] at hrec
                      refine g_iload_n (pc := 91) dX8_enough_91 rfl ?_
                      refine g_goto (pc := 92) (tgt := 96) dX8_enough_92 (by decide) ?_
                      refine a_ist2 (pc := 96) dX8_enough_96 (by decide) rfl ?_
                      refine a_iinc3 (pc := 97) dX8_enough_97 (inc1 i) (by decide) rfl ?_
                      refine g_goto (pc := 100) (tgt := 19) dX8_enough_100 (by decide) ?_
                      have hfin := ih (2 ^ v 0 3 - (i + 1)) (by omega) (i + 1) (by omega) _ hg (some (.int (nI (v 0 3)))) rfl
                      rw [hrec] at hfin
                      exact hfin
                  · have c58 := nI_gt' (by omega) (by omega) c_58
                    refine g_iload_n (pc := 61) dX8_enough_61 rfl ?_
                    refine g_iload (pc := 62) dX8_enough_62 rfl ?_
                    refine v_ishr (pc := 64) dX8_enough_64 rfl ?_
                    refine g_iconst (pc := 65) (v := (nI 1)) dX8_enough_65 (by decide) ?_
                    refine v_iand (pc := 66) dX8_enough_66 (bit_lem i (by omega) p (by omega)) ?_
                    refine g_iconst (pc := 67) (v := (nI 1)) dX8_enough_67 (by decide) ?_
                    refine g_icmp_ne (pc := 68) (tgt := 77) dX8_enough_68 (by decide) (fun c_68 => ?_) (fun c_68 => ?_)
                    · have hb0 : ¬ bitAt i p = 1 := fun h => c_68 (by rw [h])
                      have hnx : MO κ v (QM sz tb (v 0 2)) 9 (chs i (p + 1)) ∧ IFm μ κ := by
                        rw [chs_succ, if_neg hb0]
                        exact ⟨hO, hg⟩
                      refine a_iinc4 (pc := 77) dX8_enough_77 (inc1 p) (by decide) rfl ?_
                      refine g_goto (pc := 80) (tgt := 52) dX8_enough_80 (by decide) ?_
                      exact ih2 (v 0 3 - (p + 1)) (by omega) (p + 1) (by omega) _ hnx rfl
                    · have hb0 : bitAt i p = 1 := nI_eq' (by omega) (by omega) c_68
                      refine g_aload_n (pc := 71) dX8_enough_71 rfl ?_
                      refine g_iload (pc := 72) dX8_enough_72 rfl ?_
                      refine a_cv1v (pc := 74) (c_X8_irons v tc sz tb _ _ _ κ hWκ hO.1 (MO.mb hWκ.1 ((chs_lo i p).le (by omega)) (by omega)) p c58) m_X8_irons ml_X8_252 (by omega) (by first | rfl | assumption) rfl rfl (Nat.le_of_ble_eq_true rfl) dX8_enough_74 (fun x_74 μ_74 h_74 => ?_)
                      obtain ⟨o9, f9⟩ := hO.go (by omega) (chs_notin (Nat.le_refl p)) h_74
                      have hnx : MO μ_74 v (QM sz tb (v 0 2)) 9 (chs i (p + 1)) ∧ IFm μ μ_74 := by
                        rw [chs_succ, if_pos hb0]
                        exact ⟨o9, hg.trans f9⟩
                      refine a_iinc4 (pc := 77) dX8_enough_77 (inc1 p) (by decide) rfl ?_
                      refine g_goto (pc := 80) (tgt := 52) dX8_enough_80 (by decide) ?_
                      exact ih2 (v 0 3 - (p + 1)) (by omega) (p + 1) (by omega) _ hnx rfl
              exact lp52 _ 0 (Nat.zero_le _) _ ⟨MO.nil b1 b2, hf.trans b3⟩ rfl
    exact lp19 _ 0 (Nat.zero_le _) _ (IFm.refl μ) _ rfl
  · have c9 := (hd_6.resolve_left (fun q => absurd (q.1.symm.trans c_9) (by decide))).2
    refine g_bipush (pc := 12) (v := (-2)) dX8_enough_12 (by decide) ?_
    refine g_ireturn (pc := 14) dX8_enough_14 rfl (by first | rfl | decide) rfl ⟨_, rfl, ?_⟩
    exact ⟨(if_neg (fun h => c9 ⟨Nat.zero_le _, h⟩)).symm, IFm.refl μ⟩
