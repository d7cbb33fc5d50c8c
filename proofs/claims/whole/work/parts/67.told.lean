/-! ===== the model: told, set, part, force, feed ===== -/
theorem row62 {μ : Mem} {v : View} (hV : MVw μ v) {a j : Nat} (ha : a < v 0 3) (h1 : 2 ≤ j) (h2 : j ≤ 4) : μ 62 (3 * a + j - 2) = nI (v (vS j a).1 (vS j a).2) := by
  obtain ⟨-, b2, b3, b4, -⟩ := hV.2.2.2.2 a ha
  rcases (show j = 2 ∨ j = 3 ∨ j = 4 by omega) with rfl | rfl | rfl
  · exact b2.1
  · exact b3.1
  · exact b4
theorem c_X8_told (v : View) (tc : Nat) (sz : Nat → Nat) (tb : Nat → Nat → Nat) (μ : Mem) (hW : MW μ v tc sz tb) (p w : Int32) : CA eI yX8_told cX8_told 3 (some .int) 44 [.ref 57, .int p, .int w] μ (fun r μ1 => ((toldOK v p w ∧ r = toldV v (QM sz tb (v 0 2)) (nx p) (nx w)) ∨ (¬ toldOK v p w ∧ r = -2)) ∧ IFm μ μ1) := by
  obtain ⟨hV, hTx, hru⟩ := id hW
  obtain ⟨⟨v1, v1b⟩, ⟨v2, v2b⟩, ⟨v3, v3b⟩, ⟨v4, v4b⟩, v5⟩ := id hV
  refine CT.of false (by decide) (by decide) (L := [some (.ref 57), some (.int p), some (.int w)]) rfl (Nat.le_of_ble_eq_true rfl) ?_
  refine g_iload_n (pc := 0) dX8_told_0 rfl ?_
  refine g_i2l (pc := 1) dX8_told_1 rfl ?_
  refine g_lconst (pc := 2) (v := 0) dX8_told_2 (by decide) ?_
  refine g_ldc2 (pc := 3) dX8_told_3 kc_X8_103 ?_
  refine a_cs3i (pc := 6) (c_X8_in w.toInt64 0 9 μ) m_X8_in ml_X8_76 (by omega) (Nat.le_of_ble_eq_true rfl) dX8_told_6 (fun x_6 μ_6 h_6 => ?_)
  obtain ⟨hm_6, hd_6⟩ := h_6
  have hm_6 := hm_6.symm
  subst hm_6
  rw [in_c (x := w) (y := 0) (z := 9) 0 9 rfl rfl (by decide) (by decide)] at hd_6
  refine g_if_eq (pc := 9) (tgt := 25) dX8_told_9 (by decide) (fun c_9 => ?_) (fun c_9 => ?_)
  · have c9 := (hd_6.resolve_left (fun q => absurd (q.1.symm.trans c_9) (by decide))).2
    have hno : ¬ toldOK v p w := fun h => by
      have := h.1
      omega
    refine g_bipush (pc := 25) (v := (-2)) dX8_told_25 (by decide) ?_
    refine g_ireturn (pc := 27) dX8_told_27 rfl (by first | rfl | decide) rfl ⟨_, rfl, ?_⟩
    exact ⟨Or.inr ⟨hno, rfl⟩, IFm.refl _⟩
  · have c9 := (hd_6.resolve_right (fun q => c_9 q.1)).2
    have e_j := nx_lt (x := w) (n := 10) (by omega) (by decide)
    generalize j_j : nx w = j at e_j c9
    subst e_j
    refine g_iload_n (pc := 12) dX8_told_12 rfl ?_
    refine g_iconst (pc := 13) (v := (nI 1)) dX8_told_13 (by decide) ?_
    refine g_icmp_le (pc := 14) (tgt := 28) dX8_told_14 (by decide) (fun c_14 => ?_) (fun c_14 => ?_)
    · have c14 := nI_le' (by omega) (by omega) c_14
      have hok : toldOK v p (nI j) := ⟨by omega, fun h => by omega⟩
      obtain ⟨a, ha⟩ : ∃ a, nx p = a := ⟨_, rfl⟩
      rw [ha]
      refine g_iload_n (pc := 28) dX8_told_28 rfl ?_
      refine g_iconst (pc := 29) (v := (nI 5)) dX8_told_29 (by decide) ?_
      refine g_icmp_ge (pc := 30) (tgt := 69) dX8_told_30 (by decide) (fun c_30 => absurd c_30 (fun h => absurd (nI_le' (by omega) (by omega) h) (by omega))) (fun c_30 => ?_)
      refine g_iload_n (pc := 33) dX8_told_33 rfl ?_
      refine g_if_ne (pc := 34) (tgt := 44) dX8_told_34 (by decide) (fun c_34 => ?_) (fun c_34 => ?_)
      · have c34 : ¬ j = 0 := fun h => c_34 (by rw [h]; rfl)
        refine g_iload_n (pc := 44) dX8_told_44 rfl ?_
        refine g_iconst (pc := 45) (v := (nI 1)) dX8_told_45 (by decide) ?_
        refine g_icmp_ne (pc := 46) (tgt := 56) dX8_told_46 (by decide) (fun c_46 => absurd (show nI j = nI 1 by rw [show j = 1 by omega]) c_46) (fun c_46 => ?_)
        refine g_aload_n (pc := 49) dX8_told_49 rfl ?_
        refine v_geti (pc := 50) fl_X8_26 dX8_told_50 (by first | rfl | assumption) rfl v2 ?_
        refine g_goto (pc := 53) (tgt := 68) dX8_told_53 (by decide) ?_
        refine g_ireturn (pc := 68) dX8_told_68 rfl (by first | rfl | decide) rfl ⟨_, rfl, ?_⟩
        refine ⟨Or.inl ⟨hok, ?_⟩, IFm.refl _⟩
        unfold toldV
        rw [if_pos (show j ≤ 5 by omega)]
        first | (rw [c34]; rfl) | (rw [show j = 1 by omega]; rfl)
      · have c34 : j = 0 := nI_eq' (b := 0) (by omega) (by omega) c_34
        refine g_aload_n (pc := 37) dX8_told_37 rfl ?_
        refine v_geti (pc := 38) fl_X8_23 dX8_told_38 (by first | rfl | assumption) rfl v1 ?_
        refine g_goto (pc := 41) (tgt := 68) dX8_told_41 (by decide) ?_
        refine g_ireturn (pc := 68) dX8_told_68 rfl (by first | rfl | decide) rfl ⟨_, rfl, ?_⟩
        refine ⟨Or.inl ⟨hok, ?_⟩, IFm.refl _⟩
        unfold toldV
        rw [if_pos (show j ≤ 5 by omega)]
        first | (rw [c34]; rfl) | (rw [show j = 1 by omega]; rfl)
    · have c14 := nI_gt' (by omega) (by omega) c_14
      refine g_aload_n (pc := 17) dX8_told_17 rfl ?_
      refine g_iload_n (pc := 18) dX8_told_18 rfl ?_
      refine a_cv1i (pc := 19) (c_X8_isPart p (v 0 3) (by omega) μ v4) m_X8_isPart ml_X8_82 (by omega) (by first | rfl | assumption) rfl rfl (Nat.le_of_ble_eq_true rfl) dX8_told_19 (fun x_19 μ_19 h_19 => ?_)
      obtain ⟨hm_19, hd_19⟩ := h_19
      have hm_19 := hm_19.symm
      subst hm_19
      refine g_if_ne (pc := 22) (tgt := 28) dX8_told_22 (by decide) (fun c_22 => ?_) (fun c_22 => ?_)
      · have c22 := (hd_19.resolve_right (fun q => c_22 q.1)).2
        have hok : toldOK v p (nI j) := ⟨by omega, fun _ => c22⟩
        have e_a := nx_lt c22 (by omega)
        generalize j_a : nx p = a at e_a c22
        subst e_a
        refine g_iload_n (pc := 28) dX8_told_28 rfl ?_
        refine g_iconst (pc := 29) (v := (nI 5)) dX8_told_29 (by decide) ?_
        refine g_icmp_ge (pc := 30) (tgt := 69) dX8_told_30 (by decide) (fun c_30 => ?_) (fun c_30 => ?_)
        · have c30 := nI_le' (by omega) (by omega) c_30
          refine g_iload_n (pc := 69) dX8_told_69 rfl ?_
          refine g_bipush (pc := 70) (v := (nI 7)) dX8_told_70 (by decide) ?_
          refine g_icmp_ge (pc := 72) (tgt := 95) dX8_told_72 (by decide) (fun c_72 => ?_) (fun c_72 => ?_)
          · have c72 := nI_le' (by omega) (by omega) c_72
            refine g_aload_n (pc := 95) dX8_told_95 rfl ?_
            refine a_cv0v (pc := 96) (c_X8_begins v μ hV) m_X8_begins ml_X8_108 (by omega) (by first | rfl | assumption) rfl rfl (Nat.le_of_ble_eq_true rfl) dX8_told_96 (fun x_96 μ_96 h_96 => ?_)
            obtain ⟨b1, b2, b3⟩ := h_96
            have hW2 := hW.ifm b3
            refine g_iload_n (pc := 99) dX8_told_99 rfl ?_
            refine g_bipush (pc := 100) (v := (nI 7)) dX8_told_100 (by decide) ?_
            refine g_icmp_ne (pc := 102) (tgt := 113) dX8_told_102 (by decide) (fun c_102 => ?_) (fun c_102 => ?_)
            · have c102 : ¬ j = 7 := fun h => c_102 (by rw [h])
              refine g_iload_n (pc := 113) dX8_told_113 rfl ?_
              refine g_bipush (pc := 114) (v := (nI 8)) dX8_told_114 (by decide) ?_
              refine g_icmp_ne (pc := 116) (tgt := 127) dX8_told_116 (by decide) (fun c_116 => ?_) (fun c_116 => ?_)
              · have c116 : ¬ j = 8 := fun h => c_116 (by rw [h])
                have c116b : j = 9 := by omega
                refine g_aload_n (pc := 127) dX8_told_127 rfl ?_
                refine g_iload_n (pc := 128) dX8_told_128 rfl ?_
                refine a_cv1i (pc := 129) (c_X8_crumplesOf v tc sz tb (v 3) 0 0 μ_96 hW2 b1 a c22) m_X8_crumplesOf ml_X8_117 (by omega) (by first | rfl | assumption) rfl rfl (Nat.le_of_ble_eq_true rfl) dX8_told_129 (fun x_129 μ_129 h_129 => ?_)
                obtain ⟨rfl, fa⟩ := h_129
                refine g_ireturn (pc := 132) dX8_told_132 rfl (by first | rfl | decide) rfl ⟨_, rfl, ?_⟩
                refine ⟨Or.inl ⟨hok, ?_⟩, b3.trans fa.ifm⟩
                unfold toldV
                first | (rw [c102, if_neg (by decide), if_neg (by decide), if_pos rfl]; rfl) | (rw [c116, if_neg (by decide), if_neg (by decide), if_neg (by decide), if_pos rfl]; rfl) | (rw [c116b, if_neg (by decide), if_neg (by decide), if_neg (by decide), if_neg (by decide)]; rfl)
              · have c116 : j = 8 := nI_eq' (by omega) (by omega) c_116
                refine g_aload_n (pc := 119) dX8_told_119 rfl ?_
                refine g_iload_n (pc := 120) dX8_told_120 rfl ?_
                refine a_cv1i (pc := 121) (c_X8_takesOf v tc sz tb (v 3) 0 0 μ_96 hW2 b1 a c22) m_X8_takesOf ml_X8_114 (by omega) (by first | rfl | assumption) rfl rfl (Nat.le_of_ble_eq_true rfl) dX8_told_121 (fun x_121 μ_121 h_121 => ?_)
                obtain ⟨rfl, fa⟩ := h_121
                refine g_goto (pc := 124) (tgt := 132) dX8_told_124 (by decide) ?_
                refine g_ireturn (pc := 132) dX8_told_132 rfl (by first | rfl | decide) rfl ⟨_, rfl, ?_⟩
                refine ⟨Or.inl ⟨hok, ?_⟩, b3.trans fa.ifm⟩
                unfold toldV
                first | (rw [c102, if_neg (by decide), if_neg (by decide), if_pos rfl]; rfl) | (rw [c116, if_neg (by decide), if_neg (by decide), if_neg (by decide), if_pos rfl]; rfl) | (rw [c116b, if_neg (by decide), if_neg (by decide), if_neg (by decide), if_neg (by decide)]; rfl)
            · have c102 : j = 7 := nI_eq' (by omega) (by omega) c_102
              refine g_aload_n (pc := 105) dX8_told_105 rfl ?_
              refine g_iload_n (pc := 106) dX8_told_106 rfl ?_
              refine a_cv1i (pc := 107) (c_X8_keepsOf v tc sz tb (v 3) 0 0 μ_96 hW2 b1 a c22) m_X8_keepsOf ml_X8_111 (by omega) (by first | rfl | assumption) rfl rfl (Nat.le_of_ble_eq_true rfl) dX8_told_107 (fun x_107 μ_107 h_107 => ?_)
              obtain ⟨rfl, fa⟩ := h_107
              refine g_goto (pc := 110) (tgt := 132) dX8_told_110 (by decide) ?_
              refine g_ireturn (pc := 132) dX8_told_132 rfl (by first | rfl | decide) rfl ⟨_, rfl, ?_⟩
              refine ⟨Or.inl ⟨hok, ?_⟩, b3.trans fa.ifm⟩
              unfold toldV
              first | (rw [c102, if_neg (by decide), if_neg (by decide), if_pos rfl]; rfl) | (rw [c116, if_neg (by decide), if_neg (by decide), if_neg (by decide), if_pos rfl]; rfl) | (rw [c116b, if_neg (by decide), if_neg (by decide), if_neg (by decide), if_neg (by decide)]; rfl)
          · have c72 := nI_gt' (by omega) (by omega) c_72
            refine g_iload_n (pc := 75) dX8_told_75 rfl ?_
            refine g_iconst (pc := 76) (v := (nI 5)) dX8_told_76 (by decide) ?_
            refine g_icmp_ne (pc := 77) (tgt := 89) dX8_told_77 (by decide) (fun c_77 => ?_) (fun c_77 => ?_)
            · have c77 : ¬ j = 5 := fun h => c_77 (by rw [h])
              have c77b : j = 6 := by omega
              refine g_aload_n (pc := 89) dX8_told_89 rfl ?_
              refine g_iload_n (pc := 90) dX8_told_90 rfl ?_
              refine a_cv1i (pc := 91) (c_X8_showsOf v μ hV a c22) m_X8_showsOf ml_X8_105 (by omega) (by first | rfl | assumption) rfl rfl (Nat.le_of_ble_eq_true rfl) dX8_told_91 (fun x_91 μ_91 h_91 => ?_)
              obtain ⟨rfl, hm_91⟩ := h_91
              have hm_91 := hm_91.symm
              subst hm_91
              refine g_ireturn (pc := 94) dX8_told_94 rfl (by first | rfl | decide) rfl ⟨_, rfl, ?_⟩
              refine ⟨Or.inl ⟨hok, ?_⟩, IFm.refl _⟩
              unfold toldV
              first | (rw [c77, if_pos (by decide)]; rfl) | (rw [c77b, if_neg (by decide), if_pos rfl])
            · have c77 : j = 5 := nI_eq' (by omega) (by omega) c_77
              refine g_aload_n (pc := 80) dX8_told_80 rfl ?_
              refine a_getr (pc := 81) (q := 61) fl_X8_29 dX8_told_81 (by first | rfl | assumption) rfl rfl ?_
              refine g_iload_n (pc := 84) dX8_told_84 rfl ?_
              refine v_iald (pc := 85) dX8_told_85 (by first | rfl | assumption) rfl (by omega) (v5 a c22).1.1 ?_
              refine g_goto (pc := 86) (tgt := 94) dX8_told_86 (by decide) ?_
              refine g_ireturn (pc := 94) dX8_told_94 rfl (by first | rfl | decide) rfl ⟨_, rfl, ?_⟩
              refine ⟨Or.inl ⟨hok, ?_⟩, IFm.refl _⟩
              unfold toldV
              first | (rw [c77, if_pos (by decide)]; rfl) | (rw [c77b, if_neg (by decide), if_pos rfl])
        · have c30 := nI_gt' (by omega) (by omega) c_30
          refine g_iload_n (pc := 33) dX8_told_33 rfl ?_
          refine g_if_ne (pc := 34) (tgt := 44) dX8_told_34 (by decide) (fun c_34 => ?_) (fun c_34 => absurd c_34 (fun h => absurd (nI_eq' (b := 0) (by omega) (by omega) h) (by omega)))
          refine g_iload_n (pc := 44) dX8_told_44 rfl ?_
          refine g_iconst (pc := 45) (v := (nI 1)) dX8_told_45 (by decide) ?_
          refine g_icmp_ne (pc := 46) (tgt := 56) dX8_told_46 (by decide) (fun c_46 => ?_) (fun c_46 => absurd c_46 (fun h => absurd (nI_eq' (by omega) (by omega) h) (by omega)))
          refine g_aload_n (pc := 56) dX8_told_56 rfl ?_
          refine a_getr (pc := 57) (q := 62) fl_X8_32 dX8_told_57 (by first | rfl | assumption) rfl rfl ?_
          refine g_iconst (pc := 60) (v := (nI 3)) dX8_told_60 (by decide) ?_
          refine g_iload_n (pc := 61) dX8_told_61 rfl ?_
          refine v_imul (pc := 62) dX8_told_62 (pk_mul 3 a) ?_
          refine g_iload_n (pc := 63) dX8_told_63 rfl ?_
          refine v_iadd (pc := 64) dX8_told_64 (nI_add _ _) ?_
          refine g_iconst (pc := 65) (v := (nI 2)) dX8_told_65 (by decide) ?_
          refine v_isub (pc := 66) dX8_told_66 (pk_sub (by omega)) ?_
          refine v_iald (pc := 67) dX8_told_67 (by first | rfl | assumption) rfl (by omega) (row62 hV c22 (by omega) (by omega)) ?_
          refine g_ireturn (pc := 68) dX8_told_68 rfl (by first | rfl | decide) rfl ⟨_, rfl, ?_⟩
          refine ⟨Or.inl ⟨hok, ?_⟩, IFm.refl _⟩
          unfold toldV
          rw [if_pos (show j ≤ 5 by omega)]
      · have c22 := (hd_19.resolve_left (fun q => absurd (q.1.symm.trans c_22) (by decide))).2
        have hno : ¬ toldOK v p (nI j) := fun h => c22 (h.2 (by omega))
        refine g_bipush (pc := 25) (v := (-2)) dX8_told_25 (by decide) ?_
        refine g_ireturn (pc := 27) dX8_told_27 rfl (by first | rfl | decide) rfl ⟨_, rfl, ?_⟩
        exact ⟨Or.inr ⟨hno, rfl⟩, IFm.refl _⟩
theorem c_X8_mostOf (j : Nat) (hj : j ≤ 4) (μ : Mem) : CA eI yX8_mostOf cX8_mostOf 1 (some .int) 0 [.int (nI j)] μ (fun r μ1 => r = nI (moA j) ∧ μ1 = μ) := by
  refine CT.of false (by decide) (by decide) (L := [some (.int (nI j))]) rfl (Nat.le_of_ble_eq_true rfl) ?_
  refine g_iload_n (pc := 0) dX8_mostOf_0 rfl ?_
  refine g_if_eq (pc := 1) (tgt := 9) dX8_mostOf_1 (by decide) (fun c_1 => ?_) (fun c_1 => ?_)
  · have c1 : j = 0 := nI_eq' (b := 0) (by omega) (by omega) c_1
    refine g_bipush (pc := 9) (v := (nI 9)) dX8_mostOf_9 (by decide) ?_
    refine g_goto (pc := 11) (tgt := 26) dX8_mostOf_11 (by decide) ?_
    refine g_ireturn (pc := 26) dX8_mostOf_26 rfl (by first | rfl | decide) rfl ⟨_, rfl, ?_⟩
    refine ⟨congrArg nI ?_, rfl⟩
    unfold moA
    repeat' split
    all_goals omega
  · have c1 : ¬ j = 0 := fun h => c_1 (by rw [h]; rfl)
    refine g_iload_n (pc := 4) dX8_mostOf_4 rfl ?_
    refine g_iconst (pc := 5) (v := (nI 2)) dX8_mostOf_5 (by decide) ?_
    refine g_icmp_ne (pc := 6) (tgt := 14) dX8_mostOf_6 (by decide) (fun c_6 => ?_) (fun c_6 => ?_)
    · have c6 : ¬ j = 2 := fun h => c_6 (by rw [h])
      refine g_iload_n (pc := 14) dX8_mostOf_14 rfl ?_
      refine g_iconst (pc := 15) (v := (nI 4)) dX8_mostOf_15 (by decide) ?_
      refine g_icmp_ne (pc := 16) (tgt := 24) dX8_mostOf_16 (by decide) (fun c_16 => ?_) (fun c_16 => ?_)
      · have c16 : ¬ j = 4 := fun h => c_16 (by rw [h])
        refine g_bipush (pc := 24) (v := (nI 99)) dX8_mostOf_24 (by decide) ?_
        refine g_ireturn (pc := 26) dX8_mostOf_26 rfl (by first | rfl | decide) rfl ⟨_, rfl, ?_⟩
        refine ⟨congrArg nI ?_, rfl⟩
        unfold moA
        repeat' split
        all_goals omega
      · have c16 : j = 4 := nI_eq' (by omega) (by omega) c_16
        refine g_bipush (pc := 19) (v := (nI 127)) dX8_mostOf_19 (by decide) ?_
        refine g_goto (pc := 21) (tgt := 26) dX8_mostOf_21 (by decide) ?_
        refine g_ireturn (pc := 26) dX8_mostOf_26 rfl (by first | rfl | decide) rfl ⟨_, rfl, ?_⟩
        refine ⟨congrArg nI ?_, rfl⟩
        unfold moA
        repeat' split
        all_goals omega
    · have c6 : j = 2 := nI_eq' (by omega) (by omega) c_6
      refine g_bipush (pc := 9) (v := (nI 9)) dX8_mostOf_9 (by decide) ?_
      refine g_goto (pc := 11) (tgt := 26) dX8_mostOf_11 (by decide) ?_
      refine g_ireturn (pc := 26) dX8_mostOf_26 rfl (by first | rfl | decide) rfl ⟨_, rfl, ?_⟩
      refine ⟨congrArg nI ?_, rfl⟩
      unfold moA
      repeat' split
      all_goals omega
/-- one thing is laid -/
def layM (μ : Mem) (j a : Nat) (x : Int32) : Mem := if j = 0 then mset μ 57 7 x else if j = 1 then mset μ 57 8 x else if j < 5 then mset μ 62 (3 * a + j - 2) x else if j = 5 then mset μ 61 a x else mset μ 57 4 x
/-- the item of a view that it is -/
def itL (j : Nat) : Nat := if j = 6 then 10 else j
theorem layM_k {μ : Mem} {j a : Nat} {x : Int32} {k : Nat} (h1 : k ≠ 57) (h2 : k ≠ 61) (h3 : k ≠ 62) : layM μ j a x k = μ k := by
  unfold layM
  repeat' split
  all_goals (first | exact mset_ne h1 | exact mset_ne h2 | exact mset_ne h3)
theorem layM_57 {μ : Mem} {j a : Nat} {x : Int32} {i : Nat} (h1 : i ≠ 7) (h2 : i ≠ 8) (h3 : i ≠ 4) : layM μ j a x 57 i = μ 57 i := by
  unfold layM
  repeat' split
  all_goals (first | exact mset_nj h1 | exact mset_nj h2 | exact mset_nj h3 | exact congrFun (mset_ne (by omega)) i)
theorem MVw.lay {μ : Mem} {v : View} {j a x : Nat} (h : MVw μ v) (hj : j ≤ 6) (ha : 2 ≤ j → j ≤ 5 → a < v 0 3) (hx : x ≤ moA (itL j)) : MVw (layM μ j a (nI x)) (setV v (itL j) a x) := by
  obtain ⟨⟨a1, a2⟩, ⟨b1, b2⟩, ⟨c1, c2⟩, ⟨d1, d2⟩, e⟩ := h
  rcases (show j = 0 ∨ j = 1 ∨ j = 2 ∨ j = 3 ∨ j = 4 ∨ j = 5 ∨ j = 6 by omega) with rfl | rfl | rfl | rfl | rfl | rfl | rfl
  · rw [show layM μ 0 a (nI x) = mset μ 57 7 (nI x) from rfl, show setV v (itL 0) a x = vset v 0 0 x from rfl]
    refine ⟨by rw [vset_eq, mset_eq]; exact ⟨rfl, hx⟩, by rw [vset_ne (by omega), mset_nj (by decide)]; exact ⟨b1, b2⟩, by rw [vset_ne (by omega), mset_nj (by decide)]; exact ⟨c1, c2⟩, by rw [vset_ne (by omega), mset_nj (by decide)]; exact ⟨d1, d2⟩, fun p hp => ?_⟩
    rw [vset_ne (by omega)] at hp
    obtain ⟨p1, p2, p3, p4⟩ := e p hp
    refine ⟨by rw [vset_ne (by omega), mset_ne (by decide)]; exact p1, by rw [vset_ne (by omega), mset_ne (by decide)]; exact p2, by rw [vset_ne (by omega), mset_ne (by decide)]; exact p3, by rw [vset_ne (by omega), mset_ne (by decide)]; exact p4⟩
  · rw [show layM μ 1 a (nI x) = mset μ 57 8 (nI x) from rfl, show setV v (itL 1) a x = vset v 0 1 x from rfl]
    refine ⟨by rw [vset_ne (by omega), mset_nj (by decide)]; exact ⟨a1, a2⟩, by rw [vset_eq, mset_eq]; exact ⟨rfl, hx⟩, by rw [vset_ne (by omega), mset_nj (by decide)]; exact ⟨c1, c2⟩, by rw [vset_ne (by omega), mset_nj (by decide)]; exact ⟨d1, d2⟩, fun p hp => ?_⟩
    rw [vset_ne (by omega)] at hp
    obtain ⟨p1, p2, p3, p4⟩ := e p hp
    refine ⟨by rw [vset_ne (by omega), mset_ne (by decide)]; exact p1, by rw [vset_ne (by omega), mset_ne (by decide)]; exact p2, by rw [vset_ne (by omega), mset_ne (by decide)]; exact p3, by rw [vset_ne (by omega), mset_ne (by decide)]; exact p4⟩
  · rw [show layM μ 2 a (nI x) = mset μ 62 (3 * a + 2 - 2) (nI x) from rfl, show setV v (itL 2) a x = vset v 2 a x from rfl]
    refine ⟨by rw [vset_ne (by omega), mset_ne (by decide)]; exact ⟨a1, a2⟩, by rw [vset_ne (by omega), mset_ne (by decide)]; exact ⟨b1, b2⟩, by rw [vset_ne (by omega), mset_ne (by decide)]; exact ⟨c1, c2⟩, by rw [vset_ne (by omega), mset_ne (by decide)]; exact ⟨d1, d2⟩, fun p hp => ?_⟩
    rw [vset_ne (by omega)] at hp
    obtain ⟨p1, p2, p3, p4⟩ := e p hp
    refine ⟨by rw [vset_ne (by omega), mset_ne (by decide)]; exact p1, ?_, by rw [vset_ne (by omega), mset_nj (by omega)]; exact p3, by rw [vset_ne (by omega), mset_nj (by omega)]; exact p4⟩
    by_cases hpa : p = a
    · subst hpa
      rw [vset_eq]
      exact ⟨mset_eq, hx⟩
    · rw [vset_ne (fun q => hpa q.2), mset_nj (by omega)]
      exact p2
  · rw [show layM μ 3 a (nI x) = mset μ 62 (3 * a + 3 - 2) (nI x) from rfl, show setV v (itL 3) a x = vset v 3 a x from rfl]
    refine ⟨by rw [vset_ne (by omega), mset_ne (by decide)]; exact ⟨a1, a2⟩, by rw [vset_ne (by omega), mset_ne (by decide)]; exact ⟨b1, b2⟩, by rw [vset_ne (by omega), mset_ne (by decide)]; exact ⟨c1, c2⟩, by rw [vset_ne (by omega), mset_ne (by decide)]; exact ⟨d1, d2⟩, fun p hp => ?_⟩
    rw [vset_ne (by omega)] at hp
    obtain ⟨p1, p2, p3, p4⟩ := e p hp
    refine ⟨by rw [vset_ne (by omega), mset_ne (by decide)]; exact p1, by rw [vset_ne (by omega), mset_nj (by omega)]; exact p2, ?_, by rw [vset_ne (by omega), mset_nj (by omega)]; exact p4⟩
    by_cases hpa : p = a
    · subst hpa
      rw [vset_eq]
      exact ⟨mset_eq, hx⟩
    · rw [vset_ne (fun q => hpa q.2), mset_nj (by omega)]
      exact p3
  · rw [show layM μ 4 a (nI x) = mset μ 62 (3 * a + 4 - 2) (nI x) from rfl, show setV v (itL 4) a x = vset v 4 a x from rfl]
    refine ⟨by rw [vset_ne (by omega), mset_ne (by decide)]; exact ⟨a1, a2⟩, by rw [vset_ne (by omega), mset_ne (by decide)]; exact ⟨b1, b2⟩, by rw [vset_ne (by omega), mset_ne (by decide)]; exact ⟨c1, c2⟩, by rw [vset_ne (by omega), mset_ne (by decide)]; exact ⟨d1, d2⟩, fun p hp => ?_⟩
    rw [vset_ne (by omega)] at hp
    obtain ⟨p1, p2, p3, p4⟩ := e p hp
    refine ⟨by rw [vset_ne (by omega), mset_ne (by decide)]; exact p1, by rw [vset_ne (by omega), mset_nj (by omega)]; exact p2, by rw [vset_ne (by omega), mset_nj (by omega)]; exact p3, ?_⟩
    by_cases hpa : p = a
    · subst hpa
      rw [vset_eq]
      exact ⟨mset_eq, hx⟩
    · rw [vset_ne (fun q => hpa q.2), mset_nj (by omega)]
      exact p4
  · rw [show layM μ 5 a (nI x) = mset μ 61 a (nI x) from rfl, show setV v (itL 5) a x = vset v 1 a x from rfl]
    refine ⟨by rw [vset_ne (by omega), mset_ne (by decide)]; exact ⟨a1, a2⟩, by rw [vset_ne (by omega), mset_ne (by decide)]; exact ⟨b1, b2⟩, by rw [vset_ne (by omega), mset_ne (by decide)]; exact ⟨c1, c2⟩, by rw [vset_ne (by omega), mset_ne (by decide)]; exact ⟨d1, d2⟩, fun p hp => ?_⟩
    rw [vset_ne (by omega)] at hp
    obtain ⟨p1, p2, p3, p4⟩ := e p hp
    refine ⟨?_, by rw [vset_ne (by omega), mset_ne (by decide)]; exact p2, by rw [vset_ne (by omega), mset_ne (by decide)]; exact p3, by rw [vset_ne (by omega), mset_ne (by decide)]; exact p4⟩
    by_cases hpa : p = a
    · subst hpa
      rw [vset_eq]
      exact ⟨mset_eq, hx⟩
    · rw [vset_ne (fun q => hpa q.2), mset_nj (by omega)]
      exact p1
  · rw [show layM μ 6 a (nI x) = mset μ 57 4 (nI x) from rfl, show setV v (itL 6) a x = vset v 0 2 x from rfl]
    refine ⟨by rw [vset_ne (by omega), mset_nj (by decide)]; exact ⟨a1, a2⟩, by rw [vset_ne (by omega), mset_nj (by decide)]; exact ⟨b1, b2⟩, by rw [vset_eq, mset_eq]; exact ⟨rfl, hx⟩, by rw [vset_ne (by omega), mset_nj (by decide)]; exact ⟨d1, d2⟩, fun p hp => ?_⟩
    rw [vset_ne (by omega)] at hp
    obtain ⟨p1, p2, p3, p4⟩ := e p hp
    refine ⟨by rw [vset_ne (by omega), mset_ne (by decide)]; exact p1, by rw [vset_ne (by omega), mset_ne (by decide)]; exact p2, by rw [vset_ne (by omega), mset_ne (by decide)]; exact p3, by rw [vset_ne (by omega), mset_ne (by decide)]; exact p4⟩
theorem c_X8_lays (j a : Nat) (hj : j ≤ 6) (o x : Int32) (ho : 2 ≤ j → j ≤ 5 → o = nI a ∧ a < 7) (μ : Mem) : CA eV yX8_lays cX8_lays 4 none 0 [.ref 57, .int (nI j), .int o, .int x] μ (fun _ μ1 => μ1 = layM μ j a x) := by
  refine CT.of false (by decide) (by decide) (L := [some (.ref 57), some (.int (nI j)), some (.int o), some (.int x)]) rfl (Nat.le_of_ble_eq_true rfl) ?_
  refine g_iload_n (pc := 0) dX8_lays_0 rfl ?_
  refine g_if_ne (pc := 1) (tgt := 12) dX8_lays_1 (by decide) (fun c_1 => ?_) (fun c_1 => ?_)
  · have c1 : ¬ j = 0 := fun h => c_1 (by rw [h]; rfl)
    refine g_iload_n (pc := 12) dX8_lays_12 rfl ?_
    refine g_iconst (pc := 13) (v := (nI 1)) dX8_lays_13 (by decide) ?_
    refine g_icmp_ne (pc := 14) (tgt := 25) dX8_lays_14 (by decide) (fun c_14 => ?_) (fun c_14 => ?_)
    · have c14 : ¬ j = 1 := fun h => c_14 (by rw [h])
      refine g_iload_n (pc := 25) dX8_lays_25 rfl ?_
      refine g_iconst (pc := 26) (v := (nI 5)) dX8_lays_26 (by decide) ?_
      refine g_icmp_ge (pc := 27) (tgt := 46) dX8_lays_27 (by decide) (fun c_27 => ?_) (fun c_27 => ?_)
      · have c27 := nI_le' (by omega) (by omega) c_27
        refine g_iload_n (pc := 46) dX8_lays_46 rfl ?_
        refine g_iconst (pc := 47) (v := (nI 5)) dX8_lays_47 (by decide) ?_
        refine g_icmp_ne (pc := 48) (tgt := 61) dX8_lays_48 (by decide) (fun c_48 => ?_) (fun c_48 => ?_)
        · have c48 : ¬ j = 5 := fun h => c_48 (by rw [h])
          refine g_aload_n (pc := 61) dX8_lays_61 rfl ?_
          refine g_iload_n (pc := 62) dX8_lays_62 rfl ?_
          refine a_puti (pc := 63) fw_X8_98 dX8_lays_63 (by first | rfl | assumption) rfl ?_
          refine g_return (pc := 66) (x := ()) dX8_lays_66 rfl rfl ⟨_, rfl, ?_⟩
          unfold layM
          first | rw [if_pos c1] | rw [if_neg c1, if_pos c14] | rw [if_neg c1, if_neg c14, if_pos c27] | rw [if_neg c1, if_neg c14, if_neg (by omega), if_pos c48] | rw [if_neg c1, if_neg c14, if_neg (by omega), if_neg c48]
        · have c48 : j = 5 := nI_eq' (by omega) (by omega) c_48
          have hoa := ho (by omega) (by omega)
          rw [hoa.1]
          refine g_aload_n (pc := 51) dX8_lays_51 rfl ?_
          refine a_getr (pc := 52) (q := 61) fl_X8_29 dX8_lays_52 (by first | rfl | assumption) rfl rfl ?_
          refine g_iload_n (pc := 55) dX8_lays_55 rfl ?_
          refine g_iload_n (pc := 56) dX8_lays_56 rfl ?_
          refine a_iast (pc := 57) dX8_lays_57 (by first | rfl | assumption) rfl (by have := hoa.2; omega) ?_
          refine g_goto (pc := 58) (tgt := 66) dX8_lays_58 (by decide) ?_
          refine g_return (pc := 66) (x := ()) dX8_lays_66 rfl rfl ⟨_, rfl, ?_⟩
          unfold layM
          first | rw [if_pos c1] | rw [if_neg c1, if_pos c14] | rw [if_neg c1, if_neg c14, if_pos c27] | rw [if_neg c1, if_neg c14, if_neg (by omega), if_pos c48] | rw [if_neg c1, if_neg c14, if_neg (by omega), if_neg c48]
      · have c27 := nI_gt' (by omega) (by omega) c_27
        have hoa := ho (by omega) (by omega)
        rw [hoa.1]
        refine g_aload_n (pc := 30) dX8_lays_30 rfl ?_
        refine a_getr (pc := 31) (q := 62) fl_X8_32 dX8_lays_31 (by first | rfl | assumption) rfl rfl ?_
        refine g_iconst (pc := 34) (v := (nI 3)) dX8_lays_34 (by decide) ?_
        refine g_iload_n (pc := 35) dX8_lays_35 rfl ?_
        refine v_imul (pc := 36) dX8_lays_36 (pk_mul 3 a) ?_
        refine g_iload_n (pc := 37) dX8_lays_37 rfl ?_
        refine v_iadd (pc := 38) dX8_lays_38 (nI_add _ _) ?_
        refine g_iconst (pc := 39) (v := (nI 2)) dX8_lays_39 (by decide) ?_
        refine v_isub (pc := 40) dX8_lays_40 (pk_sub (by omega)) ?_
        refine g_iload_n (pc := 41) dX8_lays_41 rfl ?_
        refine a_iast (pc := 42) dX8_lays_42 (by first | rfl | assumption) rfl (by have := hoa.2; omega) ?_
        refine g_goto (pc := 43) (tgt := 66) dX8_lays_43 (by decide) ?_
        refine g_return (pc := 66) (x := ()) dX8_lays_66 rfl rfl ⟨_, rfl, ?_⟩
        unfold layM
        first | rw [if_pos c1] | rw [if_neg c1, if_pos c14] | rw [if_neg c1, if_neg c14, if_pos c27] | rw [if_neg c1, if_neg c14, if_neg (by omega), if_pos c48] | rw [if_neg c1, if_neg c14, if_neg (by omega), if_neg c48]
    · have c14 : j = 1 := nI_eq' (by omega) (by omega) c_14
      refine g_aload_n (pc := 17) dX8_lays_17 rfl ?_
      refine g_iload_n (pc := 18) dX8_lays_18 rfl ?_
      refine a_puti (pc := 19) fw_X8_26 dX8_lays_19 (by first | rfl | assumption) rfl ?_
      refine g_goto (pc := 22) (tgt := 66) dX8_lays_22 (by decide) ?_
      refine g_return (pc := 66) (x := ()) dX8_lays_66 rfl rfl ⟨_, rfl, ?_⟩
      unfold layM
      first | rw [if_pos c1] | rw [if_neg c1, if_pos c14] | rw [if_neg c1, if_neg c14, if_pos c27] | rw [if_neg c1, if_neg c14, if_neg (by omega), if_pos c48] | rw [if_neg c1, if_neg c14, if_neg (by omega), if_neg c48]
  · have c1 : j = 0 := nI_eq' (b := 0) (by omega) (by omega) c_1
    refine g_aload_n (pc := 4) dX8_lays_4 rfl ?_
    refine g_iload_n (pc := 5) dX8_lays_5 rfl ?_
    refine a_puti (pc := 6) fw_X8_23 dX8_lays_6 (by first | rfl | assumption) rfl ?_
    refine g_goto (pc := 9) (tgt := 66) dX8_lays_9 (by decide) ?_
    refine g_return (pc := 66) (x := ()) dX8_lays_66 rfl rfl ⟨_, rfl, ?_⟩
    unfold layM
    first | rw [if_pos c1] | rw [if_neg c1, if_pos c14] | rw [if_neg c1, if_neg c14, if_pos c27] | rw [if_neg c1, if_neg c14, if_neg (by omega), if_pos c48] | rw [if_neg c1, if_neg c14, if_neg (by omega), if_neg c48]
theorem c_X8_set (v : View) (tc : Nat) (sz : Nat → Nat) (tb : Nat → Nat → Nat) (μ : Mem) (hW : MW μ v tc sz tb) (w p x : Int32) : CA eI yX8_set cX8_set 5 (some .int) 45 [.ref 57, .int w, .int p, .int x] μ (fun r μ1 => (¬ setOK v w p x ∧ r = -2 ∧ μ1 = μ) ∨ (setOK v w p x ∧ r = nI (v (vS (nx w) (nx p)).1 (vS (nx w) (nx p)).2) ∧ MVw μ1 (setV v (nx w) (nx p) (nx x)) ∧ (∀ k, k ≠ 57 → k ≠ 61 → k ≠ 62 → k ≠ 63 → k ≠ 64 → μ1 k = μ k) ∧ ∀ i, i ≠ 7 → i ≠ 8 → i ≠ 4 → (i < 12 ∨ 30 < i) → μ1 57 i = μ 57 i)) := by
  obtain ⟨hV, hTx, hru⟩ := id hW
  obtain ⟨⟨v1, v1b⟩, ⟨v2, v2b⟩, ⟨v3, v3b⟩, ⟨v4, v4b⟩, v5⟩ := id hV
  refine CT.of false (by decide) (by decide) (L := [some (.ref 57), some (.int w), some (.int p), some (.int x), none]) rfl (Nat.le_of_ble_eq_true rfl) ?_
  refine g_iload_n (pc := 0) dX8_set_0 rfl ?_
  refine g_i2l (pc := 1) dX8_set_1 rfl ?_
  refine g_lconst (pc := 2) (v := 0) dX8_set_2 (by decide) ?_
  refine g_ldc2 (pc := 3) dX8_set_3 kc_X8_80 ?_
  refine a_cs3i (pc := 6) (c_X8_in w.toInt64 0 4 μ) m_X8_in ml_X8_76 (by omega) (Nat.le_of_ble_eq_true rfl) dX8_set_6 (fun x_6 μ_6 h_6 => ?_)
  obtain ⟨hm_6, hd_6⟩ := h_6
  have hm_6 := hm_6.symm
  subst hm_6
  rw [in_c (x := w) (y := 0) (z := 4) 0 4 rfl rfl (by decide) (by decide)] at hd_6
  refine g_if_eq (pc := 9) (tgt := 39) dX8_set_9 (by decide) (fun c_9 => ?_) (fun c_9 => ?_)
  · have c9 := (hd_6.resolve_left (fun q => absurd (q.1.symm.trans c_9) (by decide))).2
    have hno : ¬ setOK v w p x := fun h => by
      have := h.1
      omega
    refine g_bipush (pc := 39) (v := (-2)) dX8_set_39 (by decide) ?_
    refine g_ireturn (pc := 41) dX8_set_41 rfl (by first | rfl | decide) rfl ⟨_, rfl, ?_⟩
    exact Or.inl ⟨hno, rfl, rfl⟩
  · have c9 := (hd_6.resolve_right (fun q => c_9 q.1)).2
    have e_j := nx_lt (x := w) (n := 5) (by omega) (by decide)
    generalize j_j : nx w = j at e_j c9
    subst e_j
    have hmo := moA_le j
    have k25 : ∀ (hp : 1 < j → nx p < v 0 3), WG eI yX8_set.cls cX8_set 5 (some .int) false (fun _ _ => True) 45 (mpost (fun r μ1 => (¬ setOK v (nI j) p x ∧ r = -2 ∧ μ1 = μ) ∨ (setOK v (nI j) p x ∧ r = nI (v (vS j (nx p)).1 (vS j (nx p)).2) ∧ MVw μ1 (setV v j (nx p) (nx x)) ∧ (∀ k, k ≠ 57 → k ≠ 61 → k ≠ 62 → k ≠ 63 → k ≠ 64 → μ1 k = μ k) ∧ ∀ i, i ≠ 7 → i ≠ 8 → i ≠ 4 → (i < 12 ∨ 30 < i) → μ1 57 i = μ 57 i))) 0 0 25 [some (.ref 57), some (.int (nI j)), some (.int p), some (.int x), none] [] (mk μ) := by
      intro hp
      refine g_iload_n (pc := 25) dX8_set_25 rfl ?_
      refine g_i2l (pc := 26) dX8_set_26 rfl ?_
      refine g_lconst (pc := 27) (v := 0) dX8_set_27 (by decide) ?_
      refine g_iload_n (pc := 28) dX8_set_28 rfl ?_
      refine a_cs1i (pc := 29) (c_X8_mostOf j (by omega) μ) m_X8_mostOf ml_X8_86 (by omega) (Nat.le_of_ble_eq_true rfl) dX8_set_29 (fun x_29 μ_29 h_29 => ?_)
      obtain ⟨rfl, hm_29⟩ := h_29
      have hm_29 := hm_29.symm
      subst hm_29
      refine g_i2l (pc := 32) dX8_set_32 rfl ?_
      refine a_cs3i (pc := 33) (c_X8_in x.toInt64 0 (nI (moA j)).toInt64 μ) m_X8_in ml_X8_76 (by omega) (Nat.le_of_ble_eq_true rfl) dX8_set_33 (fun x_33 μ_33 h_33 => ?_)
      obtain ⟨hm_33, hd_33⟩ := h_33
      have hm_33 := hm_33.symm
      subst hm_33
      rw [in_c (x := x) (y := 0) (z := (nI (moA j)).toInt64) 0 (moA j) rfl (nI_l (by omega)) (by omega) (by decide)] at hd_33
      refine g_if_ne (pc := 36) (tgt := 42) dX8_set_36 (by decide) (fun c_36 => ?_) (fun c_36 => ?_)
      · have c36 := (hd_33.resolve_right (fun q => c_36 q.1)).2
        have hok : setOK v (nI j) p x := ⟨by omega, fun h => hp (by omega), by rw [j_j]; exact c36.2⟩
        have e_x := nx_lt (x := x) (n := 128) (by omega) (by decide)
        refine g_aload_n (pc := 42) dX8_set_42 rfl ?_
        refine g_iload_n (pc := 43) dX8_set_43 rfl ?_
        refine g_iload_n (pc := 44) dX8_set_44 rfl ?_
        refine a_cv2i (pc := 45) (c_X8_told v tc sz tb μ hW p (nI j)) m_X8_told ml_X8_90 (by omega) (by first | rfl | assumption) rfl rfl (Nat.le_of_ble_eq_true rfl) dX8_set_45 (fun x_45 μ_45 h_45 => ?_)
        obtain ⟨d45, f45⟩ := h_45
        obtain ⟨-, rfl⟩ := d45.resolve_right (fun q => q.1 ⟨by omega, fun h => hp (by omega)⟩)
        have hW2 := hW.ifm f45
        refine a_ist4 (pc := 48) dX8_set_48 (by decide) rfl ?_
        refine g_aload_n (pc := 50) dX8_set_50 rfl ?_
        refine g_iload_n (pc := 51) dX8_set_51 rfl ?_
        refine g_iload_n (pc := 52) dX8_set_52 rfl ?_
        refine g_iload_n (pc := 53) dX8_set_53 rfl ?_
        refine a_cv3v (pc := 54) (c_X8_lays j (nx p) (by omega) p x (fun h1 h2 => ⟨nx_lt (hp (by omega)) (by omega), by have := hp (by omega); omega⟩) μ_45) m_X8_lays ml_X8_94 (by omega) (by first | rfl | assumption) rfl rfl (Nat.le_of_ble_eq_true rfl) dX8_set_54 (fun x_54 μ_54 h_54 => ?_)
        have hm_54 := (show μ_54 = _ from h_54).symm
        subst hm_54
        refine g_iload (pc := 57) dX8_set_57 rfl ?_
        refine g_ireturn (pc := 59) dX8_set_59 rfl (by first | rfl | decide) rfl ⟨_, rfl, ?_⟩
        refine Or.inr ⟨hok, ?_, ?_, ?_, ?_⟩
        · rw [j_j]
          unfold toldV
          rw [if_pos (by omega)]
        · have h9 := hW2.1.lay (j := j) (a := nx p) (x := nx x) (by omega) (fun h1 _ => hp (by omega)) (by rw [show itL j = j from if_neg (by omega)]; exact c36.2)
          rw [show itL j = j from if_neg (by omega), ← e_x] at h9
          exact h9
        · intro k h1 h2 h3 h4 h5
          rw [layM_k h1 h2 h3]
          exact f45.1 k h1 h4 h5
        · intro i h1 h2 h3 h4
          rw [layM_57 h1 h2 h3]
          exact f45.2 i h4
      · have c36 := (hd_33.resolve_left (fun q => absurd (q.1.symm.trans c_36) (by decide))).2
        have hno : ¬ setOK v (nI j) p x := fun h => by
          have h3 := h.2.2
          rw [j_j] at h3
          exact c36 ⟨by omega, h3⟩
        refine g_bipush (pc := 39) (v := (-2)) dX8_set_39 (by decide) ?_
        refine g_ireturn (pc := 41) dX8_set_41 rfl (by first | rfl | decide) rfl ⟨_, rfl, ?_⟩
        exact Or.inl ⟨hno, rfl, rfl⟩
    refine g_iload_n (pc := 12) dX8_set_12 rfl ?_
    refine g_iconst (pc := 13) (v := (nI 1)) dX8_set_13 (by decide) ?_
    refine g_icmp_le (pc := 14) (tgt := 25) dX8_set_14 (by decide) (fun c_14 => ?_) (fun c_14 => ?_)
    · have c14 := nI_le' (by omega) (by omega) c_14
      exact k25 (fun h => by omega)
    · have c14 := nI_gt' (by omega) (by omega) c_14
      refine g_aload_n (pc := 17) dX8_set_17 rfl ?_
      refine g_iload_n (pc := 18) dX8_set_18 rfl ?_
      refine a_cv1i (pc := 19) (c_X8_isPart p (v 0 3) (by omega) μ v4) m_X8_isPart ml_X8_82 (by omega) (by first | rfl | assumption) rfl rfl (Nat.le_of_ble_eq_true rfl) dX8_set_19 (fun x_19 μ_19 h_19 => ?_)
      obtain ⟨hm_19, hd_19⟩ := h_19
      have hm_19 := hm_19.symm
      subst hm_19
      refine g_if_eq (pc := 22) (tgt := 39) dX8_set_22 (by decide) (fun c_22 => ?_) (fun c_22 => ?_)
      · have c22 := (hd_19.resolve_left (fun q => absurd (q.1.symm.trans c_22) (by decide))).2
        have hno : ¬ setOK v (nI j) p x := fun h => c22 (h.2.1 (by omega))
        refine g_bipush (pc := 39) (v := (-2)) dX8_set_39 (by decide) ?_
        refine g_ireturn (pc := 41) dX8_set_41 rfl (by first | rfl | decide) rfl ⟨_, rfl, ?_⟩
        exact Or.inl ⟨hno, rfl, rfl⟩
      · have c22 := (hd_19.resolve_right (fun q => c_22 q.1)).2
        exact k25 (fun h => by omega)
