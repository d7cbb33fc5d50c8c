/-! ===== the model: what is drawn ===== -/
/-- in the midst of drawing (those below i are drawn; the others as v has them) -/
def drX (v : View) (z : Int32) (i : Nat) : Nat → Nat := fun p => if p < i then drawN z p else v 3 p
theorem zD_s (z : Int32) (i : Nat) : zD z (i + 1) = zD z i * 1103515245 + 12345 := rfl
theorem c_X8_draws (v : View) (μ : Mem) (hV : MVw μ v) (z : Int32) : CA eV yX8_draws cX8_draws 4 none 0 [.ref 57, .int z] μ (fun _ μ1 => MVw μ1 (drW v z) ∧ (∀ p, p < v 0 3 → μ1 66 p = nI (v 3 p)) ∧ (∀ c, c ≠ 62 → c ≠ 66 → μ1 c = μ c) ∧ ∀ k, (∀ p, p < v 0 3 → k ≠ 3 * p + 1) → μ1 62 k = μ 62 k) := by
  obtain ⟨⟨v1, v1b⟩, ⟨v2, v2b⟩, ⟨v3, v3b⟩, ⟨v4, v4b⟩, v5⟩ := id hV
  refine CT.of false (by decide) (by decide) (L := [some (.ref 57), some (.int z), none, none]) rfl (Nat.le_of_ble_eq_true rfl) ?_
  refine g_iload_n (pc := 0) dX8_draws_0 rfl ?_
  refine a_ist2 (pc := 1) dX8_draws_1 (by decide) rfl ?_
  refine g_iconst (pc := 2) (v := (nI 0)) dX8_draws_2 (by decide) ?_
  refine a_ist3 (pc := 3) dX8_draws_3 (by decide) rfl ?_
  have lp4 : ∀ (zz : Nat) (i : Nat) (hi : i ≤ v 0 3) (ν : Mem) (hν : (∀ p, p < v 0 3 → ν 62 (3 * p + 1) = nI (drX v z i p)) ∧ (∀ p, p < i → ν 66 p = nI (v 3 p)) ∧ (∀ k, (∀ p, p < v 0 3 → k ≠ 3 * p + 1) → ν 62 k = μ 62 k) ∧ ∀ c, c ≠ 62 → c ≠ 66 → ν c = μ c), v 0 3 - i = zz → WG eV yX8_draws.cls cX8_draws 4 none false (fun _ _ => True) 0 (mpost (fun _ μ1 => MVw μ1 (drW v z) ∧ (∀ p, p < v 0 3 → μ1 66 p = nI (v 3 p)) ∧ (∀ c, c ≠ 62 → c ≠ 66 → μ1 c = μ c) ∧ ∀ k, (∀ p, p < v 0 3 → k ≠ 3 * p + 1) → μ1 62 k = μ 62 k)) 0 0 4 [some (.ref 57), some (.int z), some (.int (zD z i)), some (.int (nI i))] [] (mk ν) := by
    intro zz
    induction zz using Nat.strongRecOn with
    | ind zz ih =>
      intro i hi ν hν hzz
      obtain ⟨a1, a2, a3, a4⟩ := hν
      refine g_iload_n (pc := 4) dX8_draws_4 rfl ?_
      refine g_aload_n (pc := 5) dX8_draws_5 rfl ?_
      refine v_geti (pc := 6) fl_X8_73 dX8_draws_6 (by first | rfl | assumption) rfl ((congrFun (a4 57 (by omega) (by omega)) 11).trans v4) ?_
      refine g_icmp_ge (pc := 9) (tgt := 61) dX8_draws_9 (by decide) (fun c_9 => ?_) (fun c_9 => ?_)
      · have c9 := nI_le' (by omega) (by omega) c_9
        obtain rfl : i = v 0 3 := by omega
        refine g_return (pc := 61) (x := ()) dX8_draws_61 rfl rfl ⟨_, rfl, ?_⟩
        refine ⟨⟨?_, ?_, ?_, ?_, fun p hp => ?_⟩, fun p hp => a2 p hp, fun c h1 h2 => a4 c h1 h2, fun k hk => a3 k hk⟩
        · rw [a4 57 (by omega) (by omega)]
          exact ⟨v1, v1b⟩
        · rw [a4 57 (by omega) (by omega)]
          exact ⟨v2, v2b⟩
        · rw [a4 57 (by omega) (by omega)]
          exact ⟨v3, v3b⟩
        · rw [a4 57 (by omega) (by omega)]
          exact ⟨v4, v4b⟩
        · have hp : p < v 0 3 := hp
          obtain ⟨p1, p2, p3, p4⟩ := v5 p hp
          rw [show drW v z 1 p = v 1 p from ironV_o v _ (by decide), show drW v z 2 p = v 2 p from ironV_o v _ (by decide), show drW v z 3 p = drawN z p from ironV_3 v _ hp, show drW v z 4 p = v 4 p from ironV_o v _ (by decide), a4 61 (by omega) (by omega), a3 (3 * p) (fun r _ => by omega), a3 (3 * p + 2) (fun r _ => by omega), a1 p hp]
          refine ⟨p1, p2, ⟨?_, drawN_le z p⟩, p4⟩
          unfold drX
          rw [if_pos hp]
      · have c9 := nI_gt' (by omega) (by omega) c_9
        have e9 : drX v z i i = v 3 i := if_neg (by omega)
        refine g_aload_n (pc := 12) dX8_draws_12 rfl ?_
        refine a_getr (pc := 13) (q := 66) fl_X8_44 dX8_draws_13 (by first | rfl | assumption) rfl rfl ?_
        refine g_iload_n (pc := 16) dX8_draws_16 rfl ?_
        refine g_aload_n (pc := 17) dX8_draws_17 rfl ?_
        refine a_getr (pc := 18) (q := 62) fl_X8_32 dX8_draws_18 (by first | rfl | assumption) rfl rfl ?_
        refine g_iconst (pc := 21) (v := (nI 3)) dX8_draws_21 (by decide) ?_
        refine g_iload_n (pc := 22) dX8_draws_22 rfl ?_
        refine v_imul (pc := 23) dX8_draws_23 (pk_mul 3 i) ?_
        refine g_iconst (pc := 24) (v := (nI 1)) dX8_draws_24 (by decide) ?_
        refine v_iadd (pc := 25) dX8_draws_25 (nI_add _ 1) ?_
        refine v_iald (pc := 26) dX8_draws_26 (by first | rfl | assumption) rfl (by omega) ((a1 i c9).trans (by rw [e9])) ?_
        refine a_iast (pc := 27) dX8_draws_27 (by first | rfl | assumption) rfl (by omega) ?_
        refine g_iload_n (pc := 28) dX8_draws_28 rfl ?_
        refine g_ldcw (pc := 29) dX8_draws_29 kc_X8_314 ?_
        refine v_imul (pc := 32) dX8_draws_32 rfl ?_
        refine g_sipush (pc := 33) (v := (nI 12345)) dX8_draws_33 (by decide) ?_
        refine v_iadd (pc := 36) dX8_draws_36 (zD_s z i).symm ?_
        refine a_ist2 (pc := 37) dX8_draws_37 (by decide) rfl ?_
        refine g_aload_n (pc := 38) dX8_draws_38 rfl ?_
        refine a_getr (pc := 39) (q := 62) fl_X8_32 dX8_draws_39 (by first | rfl | assumption) rfl rfl ?_
        refine g_iconst (pc := 42) (v := (nI 3)) dX8_draws_42 (by decide) ?_
        refine g_iload_n (pc := 43) dX8_draws_43 rfl ?_
        refine v_imul (pc := 44) dX8_draws_44 (pk_mul 3 i) ?_
        refine g_iconst (pc := 45) (v := (nI 1)) dX8_draws_45 (by decide) ?_
        refine v_iadd (pc := 46) dX8_draws_46 (nI_add _ 1) ?_
        refine g_iload_n (pc := 47) dX8_draws_47 rfl ?_
        refine g_bipush (pc := 48) (v := (nI 9)) dX8_draws_48 (by decide) ?_
        refine g_iushr (pc := 50) dX8_draws_50 (show _ = nI (drawU (zD z (i + 1))) from nI_bv _) ?_
        refine g_bipush (pc := 51) (v := (nI 100)) dX8_draws_51 (by decide) ?_
        refine v_irem (pc := 53) dX8_draws_53 (by decide) (drawN_eq (zD z (i + 1))) ?_
        refine a_iast (pc := 54) dX8_draws_54 (by first | rfl | assumption) rfl (by omega) ?_
        refine a_iinc3 (pc := 55) dX8_draws_55 (inc1 i) (by decide) rfl ?_
        refine g_goto (pc := 58) (tgt := 4) dX8_draws_58 (by decide) ?_
        refine ih (v 0 3 - (i + 1)) (by omega) (i + 1) (by omega) _ ⟨fun p hp => ?_, fun p hp => ?_, fun k hk => ?_, fun c h1 h2 => by rw [mset_ne h1, mset_ne h2]; exact a4 c h1 h2⟩ rfl
        · by_cases hpi : p = i
          · subst hpi
            rw [mset_eq]
            unfold drX
            rw [if_pos (by omega)]
            rfl
          · rw [mset_nj (by omega), mset_ne (by omega), a1 p hp]
            unfold drX
            by_cases hlt : p < i
            · rw [if_pos hlt, if_pos (by omega)]
            · rw [if_neg hlt, if_neg (by omega)]
        · rw [mset_ne (by omega)]
          by_cases hpi : p = i
          · subst hpi
            exact mset_eq
          · rw [mset_nj hpi]
            exact a2 p (by omega)
        · rw [mset_nj (hk i c9), mset_ne (by omega)]
          exact a3 k hk
  exact lp4 _ 0 (Nat.zero_le _) _ ⟨fun p hp => (v5 p hp).2.2.1.1, fun p hp => absurd hp (Nat.not_lt_zero p), fun _ _ => rfl, fun _ _ _ => rfl⟩ rfl
theorem c_X8_laysBack (v : View) (h7 : v 0 3 ≤ 7) (μ : Mem) (hn : μ 57 11 = nI (v 0 3)) (h66 : ∀ p, p < v 0 3 → μ 66 p = nI (v 3 p)) : CA eV yX8_laysBack cX8_laysBack 2 none 0 [.ref 57] μ (fun _ μ1 => (∀ p, p < v 0 3 → μ1 62 (3 * p + 1) = nI (v 3 p)) ∧ (∀ k, (∀ p, p < v 0 3 → k ≠ 3 * p + 1) → μ1 62 k = μ 62 k) ∧ ∀ c, c ≠ 62 → μ1 c = μ c) := by
  refine CT.of false (by decide) (by decide) (L := [some (.ref 57), none]) rfl (Nat.le_of_ble_eq_true rfl) ?_
  refine g_iconst (pc := 0) (v := (nI 0)) dX8_laysBack_0 (by decide) ?_
  refine a_ist1 (pc := 1) dX8_laysBack_1 (by decide) rfl ?_
  have lp2 : ∀ (zz : Nat) (i : Nat) (hi : i ≤ v 0 3) (ν : Mem) (hν : (∀ p, p < i → ν 62 (3 * p + 1) = nI (v 3 p)) ∧ (∀ k, (∀ p, p < v 0 3 → k ≠ 3 * p + 1) → ν 62 k = μ 62 k) ∧ ∀ c, c ≠ 62 → ν c = μ c), v 0 3 - i = zz → WG eV yX8_laysBack.cls cX8_laysBack 2 none false (fun _ _ => True) 0 (mpost (fun _ μ1 => (∀ p, p < v 0 3 → μ1 62 (3 * p + 1) = nI (v 3 p)) ∧ (∀ k, (∀ p, p < v 0 3 → k ≠ 3 * p + 1) → μ1 62 k = μ 62 k) ∧ ∀ c, c ≠ 62 → μ1 c = μ c)) 0 0 2 [some (.ref 57), some (.int (nI i))] [] (mk ν) := by
    intro zz
    induction zz using Nat.strongRecOn with
    | ind zz ih =>
      intro i hi ν hν hzz
      obtain ⟨a1, a2, a3⟩ := hν
      refine g_iload_n (pc := 2) dX8_laysBack_2 rfl ?_
      refine g_aload_n (pc := 3) dX8_laysBack_3 rfl ?_
      refine v_geti (pc := 4) fl_X8_73 dX8_laysBack_4 (by first | rfl | assumption) rfl ((congrFun (a3 57 (by omega)) 11).trans hn) ?_
      refine g_icmp_ge (pc := 7) (tgt := 32) dX8_laysBack_7 (by decide) (fun c_7 => ?_) (fun c_7 => ?_)
      · have c7 := nI_le' (by omega) (by omega) c_7
        obtain rfl : i = v 0 3 := by omega
        refine g_return (pc := 32) (x := ()) dX8_laysBack_32 rfl rfl ⟨_, rfl, ?_⟩
        exact ⟨a1, a2, a3⟩
      · have c7 := nI_gt' (by omega) (by omega) c_7
        refine g_aload_n (pc := 10) dX8_laysBack_10 rfl ?_
        refine a_getr (pc := 11) (q := 62) fl_X8_32 dX8_laysBack_11 (by first | rfl | assumption) rfl rfl ?_
        refine g_iconst (pc := 14) (v := (nI 3)) dX8_laysBack_14 (by decide) ?_
        refine g_iload_n (pc := 15) dX8_laysBack_15 rfl ?_
        refine v_imul (pc := 16) dX8_laysBack_16 (pk_mul 3 i) ?_
        refine g_iconst (pc := 17) (v := (nI 1)) dX8_laysBack_17 (by decide) ?_
        refine v_iadd (pc := 18) dX8_laysBack_18 (nI_add _ 1) ?_
        refine g_aload_n (pc := 19) dX8_laysBack_19 rfl ?_
        refine a_getr (pc := 20) (q := 66) fl_X8_44 dX8_laysBack_20 (by first | rfl | assumption) rfl rfl ?_
        refine g_iload_n (pc := 23) dX8_laysBack_23 rfl ?_
        refine v_iald (pc := 24) dX8_laysBack_24 (by first | rfl | assumption) rfl (by omega) ((congrFun (a3 66 (by omega)) i).trans (h66 i c7)) ?_
        refine a_iast (pc := 25) dX8_laysBack_25 (by first | rfl | assumption) rfl (by omega) ?_
        refine a_iinc1 (pc := 26) dX8_laysBack_26 (inc1 i) (by decide) rfl ?_
        refine g_goto (pc := 29) (tgt := 2) dX8_laysBack_29 (by decide) ?_
        refine ih (v 0 3 - (i + 1)) (by omega) (i + 1) (by omega) _ ⟨fun p hp => ?_, fun k hk => (mset_nj (hk i c7)).trans (a2 k hk), fun c hc => (mset_ne hc).trans (a3 c hc)⟩ rfl
        by_cases hpi : p = i
        · subst hpi
          exact mset_eq
        · rw [mset_nj (by omega)]
          exact a1 p (by omega)
  exact lp2 _ 0 (Nat.zero_le _) _ ⟨fun p hp => absurd hp (Nat.not_lt_zero p), fun _ _ => rfl, fun _ _ => rfl⟩ rfl
/-- drawn, ironed, laid back: the parts are as they were -/
theorem MVw.backD {μ μ1 μ2 μ3 : Mem} {v : View} (hV : MVw μ v) (d3 : ∀ c, c ≠ 62 → c ≠ 66 → μ1 c = μ c) (d4 : ∀ k, (∀ p, p < v 0 3 → k ≠ 3 * p + 1) → μ1 62 k = μ 62 k) (f : ∀ k, k ≠ 57 → k ≠ 63 → k ≠ 64 → μ2 k = μ1 k) (f57 : ∀ j, j < 12 ∨ 37 < j → μ2 57 j = μ1 57 j) (e1 : ∀ p, p < v 0 3 → μ3 62 (3 * p + 1) = nI (v 3 p)) (e2 : ∀ k, (∀ p, p < v 0 3 → k ≠ 3 * p + 1) → μ3 62 k = μ2 62 k) (e3 : ∀ c, c ≠ 62 → μ3 c = μ2 c) : MVw μ3 v ∧ (∀ k, k ≠ 57 → k ≠ 62 → k ≠ 63 → k ≠ 64 → k ≠ 66 → μ3 k = μ k) ∧ ∀ j, j < 12 ∨ 37 < j → μ3 57 j = μ 57 j := by
  obtain ⟨⟨v1, v1b⟩, ⟨v2, v2b⟩, ⟨v3, v3b⟩, ⟨v4, v4b⟩, v5⟩ := hV
  have g57 : ∀ j, j < 12 ∨ 37 < j → μ3 57 j = μ 57 j := fun j hj => by rw [e3 57 (by omega), f57 j hj, d3 57 (by omega) (by omega)]
  have gk : ∀ k, k ≠ 57 → k ≠ 62 → k ≠ 63 → k ≠ 64 → k ≠ 66 → μ3 k = μ k := fun k h1 h2 h3 h4 h5 => by rw [e3 k h2, f k h1 h3 h4, d3 k h2 h5]
  have g62 : ∀ k, (∀ p, p < v 0 3 → k ≠ 3 * p + 1) → μ3 62 k = μ 62 k := fun k hk => by rw [e2 k hk, f 62 (by omega) (by omega) (by omega), d4 k hk]
  refine ⟨⟨⟨(g57 7 (by omega)).trans v1, v1b⟩, ⟨(g57 8 (by omega)).trans v2, v2b⟩, ⟨(g57 4 (by omega)).trans v3, v3b⟩, ⟨(g57 11 (by omega)).trans v4, v4b⟩, fun p hp => ?_⟩, gk, g57⟩
  obtain ⟨p1, p2, p3, p4⟩ := v5 p hp
  rw [gk 61 (by omega) (by omega) (by omega) (by omega) (by omega), g62 (3 * p) (fun r _ => by omega), g62 (3 * p + 2) (fun r _ => by omega), e1 p hp]
  exact ⟨p1, p2, ⟨rfl, p3.2⟩, p4⟩
/-- what a drawing leaves as it is -/
def DFm (v : View) (μ μ1 : Mem) : Prop := MVw μ1 v ∧ (∀ k, k ≠ 57 → k ≠ 62 → k ≠ 63 → k ≠ 64 → k ≠ 66 → μ1 k = μ k) ∧ ∀ j, j < 12 ∨ 37 < j → μ1 57 j = μ 57 j
theorem MW.dfm {μ μ1 : Mem} {v : View} {tc : Nat} {sz : Nat → Nat} {tb : Nat → Nat → Nat} (h : MW μ v tc sz tb) (g : DFm v μ μ1) : MW μ1 v tc sz tb := ⟨g.1, h.2.1.moved (g.2.2 3 (by omega)) (g.2.1 58 (by omega) (by omega) (by omega) (by omega) (by omega)) (g.2.1 59 (by omega) (by omega) (by omega) (by omega) (by omega)), h.2.2⟩
theorem MW.drawn {μ μ1 : Mem} {v : View} {tc : Nat} {sz : Nat → Nat} {tb : Nat → Nat → Nat} {z : Int32} (h : MW μ v tc sz tb) (g : MVw μ1 (drW v z)) (d3 : ∀ c, c ≠ 62 → c ≠ 66 → μ1 c = μ c) : MW μ1 (drW v z) tc sz tb := ⟨g, h.2.1.moved (congrFun (d3 57 (by omega) (by omega)) 3) (d3 58 (by omega) (by omega)) (d3 59 (by omega) (by omega)), h.2.2⟩
theorem c_X8_drawn (v : View) (tc : Nat) (sz : Nat → Nat) (tb : Nat → Nat → Nat) (μ : Mem) (hW : MW μ v tc sz tb) (z : Int32) : CA eI yX8_drawn cX8_drawn 3 (some .int) 46 [.ref 57, .int z] μ (fun r μ1 => r = nI (drV v (QM sz tb (v 0 2)) z) ∧ DFm v μ μ1) := by
  obtain ⟨hV, hTx, hru⟩ := id hW
  obtain ⟨⟨v1, v1b⟩, ⟨v2, v2b⟩, ⟨v3, v3b⟩, ⟨v4, v4b⟩, v5⟩ := id hV
  refine CT.of false (by decide) (by decide) (L := [some (.ref 57), some (.int z), none]) rfl (Nat.le_of_ble_eq_true rfl) ?_
  refine g_aload_n (pc := 0) dX8_drawn_0 rfl ?_
  refine g_iload_n (pc := 1) dX8_drawn_1 rfl ?_
  refine a_cv1v (pc := 2) (c_X8_draws v μ hV z) m_X8_draws ml_X8_315 (by omega) (by first | rfl | assumption) rfl rfl (Nat.le_of_ble_eq_true rfl) dX8_drawn_2 (fun x_2 μ_2 h_2 => ?_)
  obtain ⟨d1, d2, d3, d4⟩ := h_2
  have hW2 := hW.drawn d1 d3
  refine g_aload_n (pc := 5) dX8_drawn_5 rfl ?_
  refine g_iconst (pc := 6) (v := (-1)) dX8_drawn_6 (by decide) ?_
  refine a_cv1i (pc := 7) (c_X8_plainBut (drW v z) tc sz tb μ_2 hW2 (-1) 127 left_none) m_X8_plainBut ml_X8_264 (by omega) (by first | rfl | assumption) rfl rfl (Nat.le_of_ble_eq_true rfl) dX8_drawn_7 (fun x_7 μ_7 h_7 => ?_)
  obtain ⟨-, rfl, f7⟩ := h_7
  refine a_ist2 (pc := 10) dX8_drawn_10 (by decide) rfl ?_
  refine g_aload_n (pc := 11) dX8_drawn_11 rfl ?_
  refine a_cv0v (pc := 12) (c_X8_laysBack v v4b μ_7 ((f7.2 11 (by omega)).trans d1.2.2.2.1.1) (fun p hp => (congrFun (f7.1 66 (by omega) (by omega) (by omega)) p).trans (d2 p hp))) m_X8_laysBack ml_X8_318 (by omega) (by first | rfl | assumption) rfl rfl (Nat.le_of_ble_eq_true rfl) dX8_drawn_12 (fun x_12 μ_12 h_12 => ?_)
  obtain ⟨e1, e2, e3⟩ := h_12
  refine g_iload_n (pc := 15) dX8_drawn_15 rfl ?_
  refine g_ireturn (pc := 16) dX8_drawn_16 rfl (by first | rfl | decide) rfl ⟨_, rfl, ?_⟩
  exact ⟨rfl, hV.backD d3 d4 f7.1 (fun j hj => f7.2 j (by omega)) e1 e2 e3⟩
/-- of so many that are drawn: of how many the worst first (as the model finds it) is no worse -/
def gdM (v : View) (Q : Nat → List Nat) (z : Int32) : Nat → Nat
  | 0 => 0
  | i + 1 => if CR (drW v (z + nI i)) Q 9 (wsL (drW v (z + nI i)) (v 0 3)) ≤ drV v Q (z + nI i) then gdM v Q z i + 1 else gdM v Q z i
theorem gdM_le (v : View) (Q : Nat → List Nat) (z : Int32) : ∀ i, gdM v Q z i ≤ i
  | 0 => Nat.le_refl _
  | i + 1 => by
    have ih := gdM_le v Q z i
    rw [gdM]
    split <;> omega
def chanM (v : View) (Q : Nat → List Nat) (z n k : Int32) : Int64 := if chanOK n k then lN ((if nx k = 0 then gdM v Q z (nx n) else nx n) / cmN 100 (gdM v Q z (nx n)) (nx n)) else -4611686018427387904
theorem cm_end : ∀ a, a < 21 → ∀ b, b < 21 → cmN 40 a b = cmN 100 a b := by decide +kernel
theorem lN_0 {b : Nat} (hb : b < 2 ^ 31) : lN b = 0 ↔ b = 0 := lN_eq (b := 0) hb (by decide)
theorem c_X8_chance (v : View) (tc : Nat) (sz : Nat → Nat) (tb : Nat → Nat → Nat) (μ : Mem) (hW : MW μ v tc sz tb) (z n k : Int32) : CA eL yX8_chance cX8_chance 12 (some .long) 47 [.ref 57, .int z, .int n, .int k] μ (fun r μ1 => r = chanM v (QM sz tb (v 0 2)) z n k ∧ DFm v μ μ1) := by
  obtain ⟨hV, hTx, hru⟩ := id hW
  obtain ⟨⟨v1, v1b⟩, ⟨v2, v2b⟩, ⟨v3, v3b⟩, ⟨v4, v4b⟩, v5⟩ := id hV
  refine CT.of false (by decide) (by decide) (L := [some (.ref 57), some (.int z), some (.int n), some (.int k), none, none, none, none, none, none, none, none]) rfl (Nat.le_of_ble_eq_true rfl) ?_
  refine g_iload_n (pc := 0) dX8_chance_0 rfl ?_
  refine g_i2l (pc := 1) dX8_chance_1 rfl ?_
  refine g_lconst (pc := 2) (v := 1) dX8_chance_2 (by decide) ?_
  refine g_ldc2 (pc := 3) dX8_chance_3 kc_X8_321 ?_
  refine a_cs3i (pc := 6) (c_X8_in n.toInt64 1 20 μ) m_X8_in ml_X8_76 (by omega) (Nat.le_of_ble_eq_true rfl) dX8_chance_6 (fun x_6 μ_6 h_6 => ?_)
  obtain ⟨hm_6, hd_6⟩ := h_6
  have hm_6 := hm_6.symm
  subst hm_6
  rw [in_c (x := n) (y := 1) (z := 20) 1 20 rfl rfl (by decide) (by decide)] at hd_6
  refine g_if_eq (pc := 9) (tgt := 22) dX8_chance_9 (by decide) (fun c_9 => ?_) (fun c_9 => ?_)
  · have c9 := (hd_6.resolve_left (fun q => absurd (q.1.symm.trans c_9) (by decide))).2
    have hno : ¬ chanOK n k := fun h => c9 ⟨by have := h.2.1; omega, h.1⟩
    refine g_ldc2 (pc := 22) dX8_chance_22 kc_X8_323 ?_
    refine g_lreturn (pc := 25) dX8_chance_25 rfl rfl ⟨_, rfl, ?_⟩
    refine ⟨?_, hV, fun _ _ _ _ _ _ => rfl, fun _ _ => rfl⟩
    unfold chanM
    exact (if_neg hno).symm
  · have c9 := (hd_6.resolve_right (fun q => c_9 q.1)).2
    refine g_iload_n (pc := 12) dX8_chance_12 rfl ?_
    refine g_i2l (pc := 13) dX8_chance_13 rfl ?_
    refine g_lconst (pc := 14) (v := 0) dX8_chance_14 (by decide) ?_
    refine g_lconst (pc := 15) (v := 1) dX8_chance_15 (by decide) ?_
    refine a_cs3i (pc := 16) (c_X8_in k.toInt64 0 1 μ) m_X8_in ml_X8_76 (by omega) (Nat.le_of_ble_eq_true rfl) dX8_chance_16 (fun x_16 μ_16 h_16 => ?_)
    obtain ⟨hm_16, hd_16⟩ := h_16
    have hm_16 := hm_16.symm
    subst hm_16
    rw [in_c (x := k) (y := 0) (z := 1) 0 1 rfl rfl (by decide) (by decide)] at hd_16
    refine g_if_ne (pc := 19) (tgt := 26) dX8_chance_19 (by decide) (fun c_19 => ?_) (fun c_19 => ?_)
    · have c19 := (hd_16.resolve_right (fun q => c_19 q.1)).2
      have hok : chanOK n k := ⟨c9.2, by omega, c19.2⟩
      have d9 := c9
      have d19 := c19
      have e_m := nx_lt (x := n) (n := 21) (by omega) (by decide)
      have e_k := nx_lt (x := k) (n := 2) (by omega) (by decide)
      generalize j_m : nx n = m at e_m d9
      subst e_m
      generalize j_kk : nx k = kk at e_k d19
      subst e_k
      refine g_lconst (pc := 26) (v := 0) dX8_chance_26 (by decide) ?_
      refine a_lst4 (pc := 27) dX8_chance_27 (by decide) rfl ?_
      refine g_iconst (pc := 29) (v := (nI 0)) dX8_chance_29 (by decide) ?_
      refine a_ist6 (pc := 30) dX8_chance_30 (by decide) rfl ?_
      have lp32 : ∀ (zz : Nat) (i : Nat) (hi : i ≤ m) (ν : Mem) (hν : DFm v μ ν), m - i = zz → WG eL yX8_chance.cls cX8_chance 12 (some .long) false (fun _ _ => True) 47 (mpost (fun r μ1 => r = chanM v (QM sz tb (v 0 2)) z (nI m) (nI kk) ∧ DFm v μ μ1)) 0 0 32 [some (.ref 57), some (.int z), some (.int (nI m)), some (.int (nI kk)), some (.long (lN (gdM v (QM sz tb (v 0 2)) z i))), none, some (.int (nI i)), none, none, none, none, none] [] (mk ν) := by
        intro zz
        induction zz using Nat.strongRecOn with
        | ind zz ih =>
          intro i hi ν hν hzz
          have hg := gdM_le v (QM sz tb (v 0 2)) z i
          have hWν := hW.dfm hν
          have hrec : gdM v (QM sz tb (v 0 2)) z (i + 1) = if CR (drW v (z + nI i)) (QM sz tb (v 0 2)) 9 (wsL (drW v (z + nI i)) (v 0 3)) ≤ drV v (QM sz tb (v 0 2)) (z + nI i) then gdM v (QM sz tb (v 0 2)) z i + 1 else gdM v (QM sz tb (v 0 2)) z i := rfl
          refine g_iload (pc := 32) dX8_chance_32 rfl ?_
          refine g_iload_n (pc := 34) dX8_chance_34 rfl ?_
          refine g_icmp_ge (pc := 35) (tgt := 78) dX8_chance_35 (by decide) (fun c_35 => ?_) (fun c_35 => ?_)
          · have c35 := nI_le' (by omega) (by omega) c_35
            obtain rfl : i = m := by omega
            have hcm := cmN_pos (gdM v (QM sz tb (v 0 2)) z i) (by omega) i (by omega) (by omega)
            refine g_lload (pc := 78) dX8_chance_78 rfl ?_
            refine a_lst6 (pc := 80) dX8_chance_80 (by decide) rfl ?_
            refine g_iload_n (pc := 82) dX8_chance_82 rfl ?_
            refine g_i2l (pc := 83) dX8_chance_83 (nI_l (by omega)) ?_
            refine a_lst8 (pc := 84) dX8_chance_84 (by decide) rfl ?_
            have lp86 : ∀ (zz : Nat) (u : Nat) (hu : u ≤ 40) (a b : Nat) (ha : a < 21) (hb : b < 21 ∧ (b = 0 ∨ b + u < 21)) (he : cmN (40 - u) a b = cmN 40 (gdM v (QM sz tb (v 0 2)) z i) i) (l10 l11 : Option Value), 40 - u = zz → WG eL yX8_chance.cls cX8_chance 12 (some .long) false (fun _ _ => True) 47 (mpost (fun r μ1 => r = chanM v (QM sz tb (v 0 2)) z (nI i) (nI kk) ∧ DFm v μ μ1)) 0 0 86 [some (.ref 57), some (.int z), some (.int (nI i)), some (.int (nI kk)), some (.long (lN (gdM v (QM sz tb (v 0 2)) z i))), none, some (.long (lN a)), none, some (.long (lN b)), none, l10, l11] [] (mk ν) := by
              intro zz
              induction zz using Nat.strongRecOn with
              | ind zz ih2 =>
                intro u hu a b ha hb he l10 l11 hzz
                refine g_lload (pc := 86) dX8_chance_86 rfl ?_
                refine g_lconst (pc := 88) (v := 0) dX8_chance_88 (by decide) ?_
                refine g_lcmp (pc := 89) dX8_chance_89 ?_
                refine g_if_eq (pc := 90) (tgt := 111) dX8_chance_90 (by decide) (fun c_90 => ?_) (fun c_90 => ?_)
                · have c90 : b = 0 := (lN_0 (by omega)).mp ((lg_cmp_eq _ _).mp c_90)
                  have hra : a = cmN 100 (gdM v (QM sz tb (v 0 2)) z i) i := by
                    rw [c90, cmN_0] at he
                    rw [he]
                    exact cm_end _ (by omega) _ (by omega)
                  clear he
                  refine g_iload_n (pc := 111) dX8_chance_111 rfl ?_
                  refine g_if_ne (pc := 112) (tgt := 123) dX8_chance_112 (by decide) (fun c_112 => ?_) (fun c_112 => ?_)
                  · have ck : ¬ kk = 0 := fun h => c_112 (by rw [h]; rfl)
                    refine g_iload_n (pc := 123) dX8_chance_123 rfl ?_
                    refine g_i2l (pc := 124) dX8_chance_124 (nI_l (by omega)) ?_
                    refine g_lload (pc := 125) dX8_chance_125 rfl ?_
                    refine v_ldiv (pc := 127) dX8_chance_127 (fun h => absurd ((lN_0 (by omega)).mp h) (by omega)) (pk_lDiv (by omega) (by omega) (by omega)) ?_
                    refine g_lreturn (pc := 128) dX8_chance_128 rfl rfl ⟨_, rfl, ?_⟩
                    refine ⟨?_, hν⟩
                    unfold chanM
                    rw [if_pos (by unfold chanOK; omega), j_kk, j_m, ← hra]
                    first | rw [if_pos ck] | rw [if_neg ck]
                  · have ck : kk = 0 := nI_eq' (b := 0) (by omega) (by omega) c_112
                    refine g_lload (pc := 115) dX8_chance_115 rfl ?_
                    refine g_lload (pc := 117) dX8_chance_117 rfl ?_
                    refine v_ldiv (pc := 119) dX8_chance_119 (fun h => absurd ((lN_0 (by omega)).mp h) (by omega)) (pk_lDiv (by omega) (by omega) (by omega)) ?_
                    refine g_goto (pc := 120) (tgt := 128) dX8_chance_120 (by decide) ?_
                    refine g_lreturn (pc := 128) dX8_chance_128 rfl rfl ⟨_, rfl, ?_⟩
                    refine ⟨?_, hν⟩
                    unfold chanM
                    rw [if_pos (by unfold chanOK; omega), j_kk, j_m, ← hra]
                    first | rw [if_pos ck] | rw [if_neg ck]
                · have c90 : ¬ b = 0 := fun h => c_90 ((lg_cmp_eq _ _).mpr ((lN_0 (by omega)).mpr h))
                  refine g_lload (pc := 93) dX8_chance_93 rfl ?_
                  refine g_lload (pc := 95) dX8_chance_95 rfl ?_
                  refine v_lrem (pc := 97) dX8_chance_97 (fun h => c90 ((lN_0 (by omega)).mp h)) (pk_lRem (a := a) (b := b) (by omega) (by omega) (by omega)) ?_
                  refine a_lst10 (pc := 98) dX8_chance_98 (by decide) rfl ?_
                  refine g_lload (pc := 100) dX8_chance_100 rfl ?_
                  refine a_lst6 (pc := 102) dX8_chance_102 (by decide) rfl ?_
                  refine g_lload (pc := 104) dX8_chance_104 rfl ?_
                  refine a_lst8 (pc := 106) dX8_chance_106 (by decide) rfl ?_
                  refine g_goto (pc := 108) (tgt := 86) dX8_chance_108 (by decide) ?_
                  exact ih2 (40 - (u + 1)) (by omega) (u + 1) (by omega) b (a % b) hb.1 ⟨Nat.lt_trans (Nat.mod_lt _ (by omega)) hb.1, by have := Nat.mod_lt a (show 0 < b by omega); omega⟩ (by rw [← he, show 40 - u = (40 - (u + 1)) + 1 by omega, cmN, if_neg c90]) _ _ rfl
            exact lp86 _ 0 (Nat.zero_le _) (gdM v (QM sz tb (v 0 2)) z i) i (by omega) ⟨by omega, by omega⟩ rfl _ _ rfl
          · have c35 := nI_gt' (by omega) (by omega) c_35
            refine g_aload_n (pc := 38) dX8_chance_38 rfl ?_
            refine g_iload_n (pc := 39) dX8_chance_39 rfl ?_
            refine g_iload (pc := 40) dX8_chance_40 rfl ?_
            refine v_iadd (pc := 42) dX8_chance_42 rfl ?_
            refine a_cv1v (pc := 43) (c_X8_draws v ν hν.1 (z + nI i)) m_X8_draws ml_X8_315 (by omega) (by first | rfl | assumption) rfl rfl (Nat.le_of_ble_eq_true rfl) dX8_chance_43 (fun x_43 μ_43 h_43 => ?_)
            obtain ⟨d1, d2, d3, d4⟩ := h_43
            have hW2 := hWν.drawn d1 d3
            refine g_lload (pc := 46) dX8_chance_46 rfl ?_
            refine g_aload_n (pc := 48) dX8_chance_48 rfl ?_
            refine a_cv0i (pc := 49) (c_X8_worstFirst (drW v (z + nI i)) tc sz tb μ_43 hW2) m_X8_worstFirst ml_X8_291 (by omega) (by first | rfl | assumption) rfl rfl (Nat.le_of_ble_eq_true rfl) dX8_chance_49 (fun x_49 μ_49 h_49 => ?_)
            obtain ⟨-, rfl, -, f49⟩ := h_49
            have hW3 := hW2.qfm f49.qfm
            have hc1 : CR (drW v (z + nI i)) (QM sz tb (v 0 2)) 9 (wsL (drW v (z + nI i)) (v 0 3)) ≤ 2079 := CR_le d1.vb (wsL_lo (v := drW v (z + nI i)) v4b _ (Nat.le_refl _))
            obtain ⟨x1, hx1⟩ : ∃ x, CR (drW v (z + nI i)) (QM sz tb (v 0 2)) 9 (wsL (drW v (z + nI i)) (v 0 3)) = x := ⟨_, rfl⟩
            rw [show CR (drW v (z + nI i)) (QM sz tb (drW v (z + nI i) 0 2)) 9 (wsL (drW v (z + nI i)) (drW v (z + nI i) 0 3)) = x1 from hx1]
            rw [hx1] at hc1 hrec
            refine g_aload_n (pc := 52) dX8_chance_52 rfl ?_
            refine g_iconst (pc := 53) (v := (-1)) dX8_chance_53 (by decide) ?_
            refine a_cv1i (pc := 54) (c_X8_plainBut (drW v (z + nI i)) tc sz tb μ_49 hW3 (-1) 127 left_none) m_X8_plainBut ml_X8_264 (by omega) (by first | rfl | assumption) rfl rfl (Nat.le_of_ble_eq_true rfl) dX8_chance_54 (fun x_54 μ_54 h_54 => ?_)
            obtain ⟨-, rfl, f54⟩ := h_54
            have hc2 : drV v (QM sz tb (v 0 2)) (z + nI i) ≤ 2079 := CR_le (v := drW v (z + nI i)) d1.vb (chs_lo _ _)
            obtain ⟨x2, hx2⟩ : ∃ x, drV v (QM sz tb (v 0 2)) (z + nI i) = x := ⟨_, rfl⟩
            rw [show CR (drW v (z + nI i)) (QM sz tb (drW v (z + nI i) 0 2)) 9 (chs 127 (drW v (z + nI i) 0 3)) = x2 from hx2]
            rw [hx2] at hc2 hrec
            refine g_icmp_gt (pc := 57) (tgt := 64) dX8_chance_57 (by decide) (fun c_57 => ?_) (fun c_57 => ?_)
            · have c57 := nI_lt' (by omega) (by omega) c_57
              rw [if_neg (by omega)] at hrec
              refine g_lconst (pc := 64) (v := 0) dX8_chance_64 (by decide) ?_
              refine v_ladd (pc := 65) dX8_chance_65 (show lN (gdM v (QM sz tb (v 0 2)) z i) + 0 = lN (gdM v (QM sz tb (v 0 2)) z i) from lN_add _ 0) ?_
              refine a_lst4 (pc := 66) dX8_chance_66 (by decide) rfl ?_
              refine g_aload_n (pc := 68) dX8_chance_68 rfl ?_
              refine a_cv0v (pc := 69) (c_X8_laysBack v v4b μ_54 ((f54.2 11 (by omega)).trans ((f49.2 11 (by omega)).trans d1.2.2.2.1.1)) (fun p hp => (congrFun (f54.1 66 (by omega) (by omega) (by omega)) p).trans ((congrFun (f49.1 66 (by omega) (by omega) (by omega)) p).trans (d2 p hp)))) m_X8_laysBack ml_X8_318 (by omega) (by first | rfl | assumption) rfl rfl (Nat.le_of_ble_eq_true rfl) dX8_chance_69 (fun x_69 μ_69 h_69 => ?_)
              obtain ⟨e1, e2, e3⟩ := h_69
              obtain ⟨h1, h2, h3⟩ := hν.1.backD d3 d4 (fun k q1 q2 q3 => (f54.1 k q1 q2 q3).trans (f49.1 k q1 q2 q3)) (fun j hj => (f54.2 j (by omega)).trans (f49.2 j hj)) e1 e2 e3
              have hfr : DFm v μ μ_69 := ⟨h1, fun k q1 q2 q3 q4 q5 => (h2 k q1 q2 q3 q4 q5).trans (hν.2.1 k q1 q2 q3 q4 q5), fun j hj => (h3 j hj).trans (hν.2.2 j hj)⟩
              refine a_iinc6 (pc := 72) dX8_chance_72 (inc1 i) (by decide) rfl ?_
              refine g_goto (pc := 75) (tgt := 32) dX8_chance_75 (by decide) ?_
              have hfin := ih (m - (i + 1)) (by omega) (i + 1) (by omega) _ hfr rfl
              rw [hrec] at hfin
              exact hfin
            · have c57 := nI_ge' (by omega) (by omega) c_57
              rw [if_pos c57] at hrec
              refine g_lconst (pc := 60) (v := 1) dX8_chance_60 (by decide) ?_
              refine g_goto (pc := 61) (tgt := 65) dX8_chance_61 (by decide) ?_
              refine v_ladd (pc := 65) dX8_chance_65 (lN_1 (gdM v (QM sz tb (v 0 2)) z i)) ?_
              refine a_lst4 (pc := 66) dX8_chance_66 (by decide) rfl ?_
              refine g_aload_n (pc := 68) dX8_chance_68 rfl ?_
              refine a_cv0v (pc := 69) (c_X8_laysBack v v4b μ_54 ((f54.2 11 (by omega)).trans ((f49.2 11 (by omega)).trans d1.2.2.2.1.1)) (fun p hp => (congrFun (f54.1 66 (by omega) (by omega) (by omega)) p).trans ((congrFun (f49.1 66 (by omega) (by omega) (by omega)) p).trans (d2 p hp)))) m_X8_laysBack ml_X8_318 (by omega) (by first | rfl | assumption) rfl rfl (Nat.le_of_ble_eq_true rfl) dX8_chance_69 (fun x_69 μ_69 h_69 => ?_)
              obtain ⟨e1, e2, e3⟩ := h_69
              obtain ⟨h1, h2, h3⟩ := hν.1.backD d3 d4 (fun k q1 q2 q3 => (f54.1 k q1 q2 q3).trans (f49.1 k q1 q2 q3)) (fun j hj => (f54.2 j (by omega)).trans (f49.2 j hj)) e1 e2 e3
              have hfr : DFm v μ μ_69 := ⟨h1, fun k q1 q2 q3 q4 q5 => (h2 k q1 q2 q3 q4 q5).trans (hν.2.1 k q1 q2 q3 q4 q5), fun j hj => (h3 j hj).trans (hν.2.2 j hj)⟩
              refine a_iinc6 (pc := 72) dX8_chance_72 (inc1 i) (by decide) rfl ?_
              refine g_goto (pc := 75) (tgt := 32) dX8_chance_75 (by decide) ?_
              have hfin := ih (m - (i + 1)) (by omega) (i + 1) (by omega) _ hfr rfl
              rw [hrec] at hfin
              exact hfin
      exact lp32 _ 0 (Nat.zero_le _) μ ⟨hV, fun _ _ _ _ _ _ => rfl, fun _ _ => rfl⟩ rfl
    · have c19 := (hd_16.resolve_left (fun q => absurd (q.1.symm.trans c_19) (by decide))).2
      have hno : ¬ chanOK n k := fun h => c19 ⟨by omega, h.2.2⟩
      refine g_ldc2 (pc := 22) dX8_chance_22 kc_X8_323 ?_
      refine g_lreturn (pc := 25) dX8_chance_25 rfl rfl ⟨_, rfl, ?_⟩
      refine ⟨?_, hV, fun _ _ _ _ _ _ => rfl, fun _ _ => rfl⟩
      unfold chanM
      exact (if_neg hno).symm
