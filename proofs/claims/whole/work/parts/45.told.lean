/-! ===== the class: told, iron, count, the image ===== -/
abbrev toldOK (v : View) (p w : Int32) : Prop := nx w ≤ 9 ∧ (1 < nx w → nx p < v 0 3)
def toldV (v : View) (Q : Nat → List Nat) (p w : Nat) : Int32 :=
  if w ≤ 5 then nI (v (vS w p).1 (vS w p).2) else if w = 6 then nI (kShows (v 1 p))
  else if w = 7 then nI (kKeeps (v 1 p) (TV Q 0 0 (v 0 1) (v 0 0) (v 2 p) (v 3 p) p) (v 3 p) (v 2 p))
  else if w = 8 then nI (kTakes (v 1 p) (TV Q 1 0 (v 0 1) (v 0 0) (v 2 p) (v 3 p) p) (v 2 p))
  else nI (kCrumples (v 1 p) (TV Q 2 0 (v 0 1) (v 0 0) (v 2 p) (v 3 p) p))
theorem TF.of3 {μ μ1 : Mem} (h : ∀ k, k ≠ 31 → k ≠ 32 → k ≠ 35 → μ1 k = μ k) (h2 : μ1 35 3 = μ 35 3) : TF μ μ1 := ⟨fun c hc => h c (by omega) (by omega) (by omega), congrFun (h 46 (by omega) (by omega) (by omega)) 0, h2⟩
theorem c_X7_told (v vk : View) (tc : Nat) (P : Nat → Nat → List Nat) (μ : Mem) (hX : XW μ v vk tc P) (p w : Int32) : CA eI yX7_told cX7_told 4 (some .int) 3 [.ref 0, .int p, .int w] μ (fun r μ1 => ((toldOK v p w ∧ r = toldV v (P (v 0 2)) (nx p) (nx w)) ∨ (¬ toldOK v p w ∧ r = -2)) ∧ TF μ μ1) := by
  have hc := hX.cw
  have hv := hc.2.1
  have hsb : SB 1 := Or.inl rfl
  have hvb := hc.2.1.vb
  have hn7 := hvb.1
  have hsp := hX.2.2.2.2.2.2.1
  have h127 := chs_lo 127 (v 0 3)
  refine CT.of false (by decide) (by decide) (L := [some (.ref 0), some (.int p), some (.int w), none]) rfl (Nat.le_of_ble_eq_true rfl) ?_
  refine g_iload_n (pc := 0) dX7_told_0 rfl ?_
  refine g_if_lt (pc := 1) (tgt := 19) dX7_told_1 (by decide) (fun c_1 => ?_) (fun c_1 => ?_)
  · have hno : ¬ toldOK v p w := fun ⟨a, b⟩ => by
      have := nx_neg c_1
      omega
    refine g_bipush (pc := 19) (v := (-2)) dX7_told_19 (by decide) ?_
    refine g_ireturn (pc := 21) dX7_told_21 rfl (by first | rfl | decide) rfl ⟨_, rfl, ?_⟩
    exact ⟨Or.inr ⟨hno, rfl⟩, TF.refl μ⟩
  · obtain ⟨e_j, b_j⟩ := nx_of c_1
    generalize j_j : nx w = j at e_j b_j
    subst e_j
    refine g_iload_n (pc := 4) dX7_told_4 rfl ?_
    refine g_bipush (pc := 5) (v := (nI 9)) dX7_told_5 (by decide) ?_
    refine g_icmp_gt (pc := 7) (tgt := 19) dX7_told_7 (by decide) (fun c_7 => ?_) (fun c_7 => ?_)
    · have c7 := nI_gt' (a := j) (b := 9) (by omega) (by omega) (Int32.not_le.mpr c_7)
      have hno : ¬ toldOK v p (nI j) := fun ⟨a, b⟩ => by omega
      refine g_bipush (pc := 19) (v := (-2)) dX7_told_19 (by decide) ?_
      refine g_ireturn (pc := 21) dX7_told_21 rfl (by first | rfl | decide) rfl ⟨_, rfl, ?_⟩
      exact ⟨Or.inr ⟨hno, rfl⟩, TF.refl μ⟩
    · have c7 : j ≤ 9 := nI_le' (by omega) (by omega) (Int32.not_lt.mp c_7)
      refine g_aload_n (pc := 10) dX7_told_10 rfl ?_
      refine g_iload_n (pc := 11) dX7_told_11 rfl ?_
      refine g_iload_n (pc := 12) dX7_told_12 rfl ?_
      refine a_cv2i (pc := 13) (c_X7_isNoPart v μ hv j (by omega) p) m_X7_isNoPart ml_X7_61 (by omega) (by first | rfl | assumption) rfl rfl (Nat.le_of_ble_eq_true rfl) dX7_told_13 (fun x_13 μ_13 h_13 => ?_)
      obtain ⟨hm_13, hd_13⟩ := h_13
      have hm_13 := hm_13.symm
      subst hm_13
      refine g_if_eq (pc := 16) (tgt := 22) dX7_told_16 (by decide) (fun c_16 => ?_) (fun c_16 => ?_)
      · have c16 := (hd_13.resolve_left (fun q => absurd (q.1.symm.trans c_16) (by decide))).2
        have cp : 1 < j → nx p < v 0 3 := fun h => Decidable.of_not_not (fun q => c16 ⟨h, q⟩)
        have hok : toldOK v p (nI j) := by
          refine ⟨?_, ?_⟩
          · rw [j_j]
            exact c7
          · rw [j_j]
            exact cp
        refine g_iload_n (pc := 22) dX7_told_22 rfl ?_
        refine g_iconst (pc := 23) (v := (nI 5)) dX7_told_23 (by decide) ?_
        refine g_icmp_gt (pc := 24) (tgt := 37) dX7_told_24 (by decide) (fun c_24 => ?_) (fun c_24 => ?_)
        · have c24 := nI_gt' (a := j) (b := 5) (by omega) (by omega) (Int32.not_le.mpr c_24)
          have c15 := cp (by omega)
          have e_k := nx_lt c15 (by omega)
          generalize j_k : nx p = k at e_k c15
          subst e_k
          refine g_iload_n (pc := 37) dX7_told_37 rfl ?_
          refine g_bipush (pc := 38) (v := (nI 6)) dX7_told_38 (by decide) ?_
          refine g_icmp_ne (pc := 40) (tgt := 56) dX7_told_40 (by decide) (fun c_40 => ?_) (fun c_40 => ?_)
          · have c40 := nI_ne' (by omega) (by omega) c_40
            refine g_aload_n (pc := 56) dX7_told_56 rfl ?_
            refine a_getr (pc := 57) (q := 35) fl_X7_41 dX7_told_57 (by first | rfl | assumption) rfl rfl ?_
            refine g_aload_n (pc := 60) dX7_told_60 rfl ?_
            refine a_getr (pc := 61) (q := 1) fl_X7_10 dX7_told_61 (by first | rfl | assumption) rfl rfl ?_
            refine a_cv1v (pc := 64) (c_X0_begin 1 hsb v μ hv) m_X0_begin ml_X7_93 (by omega) (by first | rfl | assumption) rfl rfl (Nat.le_of_ble_eq_true rfl) dX7_told_64 (fun x_64 μ_64 h_64 => ?_)
            have hr5 := hv.2.2.1.2
            obtain ⟨g1, g2, g3, g4, g5, g6⟩ := h_64
            have hI : IW μ_64 1 v (P (v 0 2)) := ⟨hsb, g3, hv.moved (fun k _ _ => g1 k (by omega) (by omega)), fun e he => ⟨(hc.2.2.1 e he).1.moved (g1 _ (by omega) (by omega)) (g1 _ (by omega) (by omega)), (hc.2.2.1 e he).2⟩, g6⟩
            have f64 : TF μ μ_64 := TF.of3 (fun k a b c => g1 k a c) (g2 3 (by omega) (by omega) (by omega))
            have b3 := (hI.2.2.1.2.2.2.2 k c15).2.2.1.2
            refine g_aload_n (pc := 67) dX7_told_67 rfl ?_
            refine a_getr (pc := 68) (q := 1) fl_X7_10 dX7_told_68 (by first | rfl | assumption) rfl rfl ?_
            refine a_getr (pc := 71) (q := 4) fl_X7_97 dX7_told_71 (by first | rfl | assumption) rfl rfl ?_
            refine g_iload_n (pc := 74) dX7_told_74 rfl ?_
            refine v_iald (pc := 75) dX7_told_75 (by first | rfl | assumption) rfl (by omega) (hI.2.2.1.2.2.2.2 k c15).2.2.1.1 ?_
            refine a_ist3 (pc := 76) dX7_told_76 (by decide) rfl ?_
            refine g_iload_n (pc := 77) dX7_told_77 rfl ?_
            refine g_bipush (pc := 78) (v := (nI 7)) dX7_told_78 (by decide) ?_
            refine g_icmp_ne (pc := 80) (tgt := 93) dX7_told_80 (by decide) (fun c_80 => ?_) (fun c_80 => ?_)
            · have c80 := nI_ne' (by omega) (by omega) c_80
              refine g_iload_n (pc := 93) dX7_told_93 rfl ?_
              refine g_bipush (pc := 94) (v := (nI 8)) dX7_told_94 (by decide) ?_
              refine g_icmp_ne (pc := 96) (tgt := 111) dX7_told_96 (by decide) (fun c_96 => ?_) (fun c_96 => ?_)
              · have c96 := nI_ne' (by omega) (by omega) c_96
                refine g_aload_n (pc := 111) dX7_told_111 rfl ?_
                refine a_getr (pc := 112) (q := 35) fl_X7_41 dX7_told_112 (by first | rfl | assumption) rfl rfl ?_
                refine g_iload_n (pc := 115) dX7_told_115 rfl ?_
                refine g_iload_n (pc := 116) dX7_told_116 rfl ?_
                refine a_cv2i (pc := 117) (c_X0_crumples 1 v (P (v 0 2)) μ_64 hI 0 0 (v 3 k) k g4 g5 (by omega) (by omega) b3 c15) m_X0_crumples ml_X7_106 (by omega) (by first | rfl | assumption) rfl rfl (Nat.le_of_ble_eq_true rfl) dX7_told_117 (fun x_117 μ_117 h_117 => ?_)
                obtain ⟨rfl, k117, k117b⟩ := h_117
                have f117 := f64.trans (TF.of3 (fun k a b c => k117 k a b) (congrFun (k117 35 (by omega) (by omega)) 3))
                refine g_ireturn (pc := 120) dX7_told_120 rfl (by first | rfl | decide) rfl ⟨_, rfl, ?_⟩
                first
                  | (refine ⟨Or.inl ⟨hok, ?_⟩, f105⟩
                     unfold toldV
                     rw [if_neg (by omega), if_neg (by omega), if_neg c80, if_pos c96]
                     all_goals rfl)
                  | (refine ⟨Or.inl ⟨hok, ?_⟩, f117⟩
                     unfold toldV
                     rw [if_neg (by omega), if_neg (by omega), if_neg c80, if_neg c96]
                     all_goals rfl)
              · have c96 : j = 8 := nI_eq' (by omega) (by omega) c_96
                refine g_aload_n (pc := 99) dX7_told_99 rfl ?_
                refine a_getr (pc := 100) (q := 35) fl_X7_41 dX7_told_100 (by first | rfl | assumption) rfl rfl ?_
                refine g_iload_n (pc := 103) dX7_told_103 rfl ?_
                refine g_iload_n (pc := 104) dX7_told_104 rfl ?_
                refine a_cv2i (pc := 105) (c_X0_takes 1 v (P (v 0 2)) μ_64 hI 0 0 (v 3 k) k g4 g5 (by omega) (by omega) b3 c15) m_X0_takes ml_X7_103 (by omega) (by first | rfl | assumption) rfl rfl (Nat.le_of_ble_eq_true rfl) dX7_told_105 (fun x_105 μ_105 h_105 => ?_)
                obtain ⟨rfl, k105, k105b⟩ := h_105
                have f105 := f64.trans (TF.of3 (fun k a b c => k105 k a b) (congrFun (k105 35 (by omega) (by omega)) 3))
                refine g_goto (pc := 108) (tgt := 120) dX7_told_108 (by decide) ?_
                refine g_ireturn (pc := 120) dX7_told_120 rfl (by first | rfl | decide) rfl ⟨_, rfl, ?_⟩
                first
                  | (refine ⟨Or.inl ⟨hok, ?_⟩, f105⟩
                     unfold toldV
                     rw [if_neg (by omega), if_neg (by omega), if_neg c80, if_pos c96]
                     all_goals rfl)
                  | (refine ⟨Or.inl ⟨hok, ?_⟩, f117⟩
                     unfold toldV
                     rw [if_neg (by omega), if_neg (by omega), if_neg c80, if_neg c96]
                     all_goals rfl)
            · have c80 : j = 7 := nI_eq' (by omega) (by omega) c_80
              refine g_aload_n (pc := 83) dX7_told_83 rfl ?_
              refine a_getr (pc := 84) (q := 35) fl_X7_41 dX7_told_84 (by first | rfl | assumption) rfl rfl ?_
              refine g_iload_n (pc := 87) dX7_told_87 rfl ?_
              refine g_iload_n (pc := 88) dX7_told_88 rfl ?_
              refine a_cv2i (pc := 89) (c_X0_keeps 1 v (P (v 0 2)) μ_64 hI 0 0 (v 3 k) k g4 g5 (by omega) (by omega) b3 c15) m_X0_keeps ml_X7_100 (by omega) (by first | rfl | assumption) rfl rfl (Nat.le_of_ble_eq_true rfl) dX7_told_89 (fun x_89 μ_89 h_89 => ?_)
              obtain ⟨rfl, k89, k89b⟩ := h_89
              have f89 := f64.trans (TF.of3 (fun k a b c => k89 k a b) (congrFun (k89 35 (by omega) (by omega)) 3))
              refine g_ireturn (pc := 92) dX7_told_92 rfl (by first | rfl | decide) rfl ⟨_, rfl, ?_⟩
              refine ⟨Or.inl ⟨hok, ?_⟩, f89⟩
              unfold toldV
              rw [if_neg (by omega), if_neg (by omega), if_pos c80]
              all_goals rfl
          · have c40 : j = 6 := nI_eq' (by omega) (by omega) c_40
            refine g_aload_n (pc := 43) dX7_told_43 rfl ?_
            refine a_getr (pc := 44) (q := 1) fl_X7_10 dX7_told_44 (by first | rfl | assumption) rfl rfl ?_
            refine a_getr (pc := 47) (q := 2) fl_X7_86 dX7_told_47 (by first | rfl | assumption) rfl rfl ?_
            refine g_iload_n (pc := 50) dX7_told_50 rfl ?_
            refine v_iald (pc := 51) dX7_told_51 (by first | rfl | assumption) rfl (by omega) (hv.2.2.2.2 k c15).1.1 ?_
            refine a_cs1i (pc := 52) (c_X1_shows (v 1 k) (hv.2.2.2.2 k c15).1.2 μ) m_X1_shows ml_X7_89 (by omega) (Nat.le_of_ble_eq_true rfl) dX7_told_52 (fun x_52 μ_52 h_52 => ?_)
            obtain ⟨rfl, hm_52⟩ := h_52
            have hm_52 := hm_52.symm
            subst hm_52
            refine g_ireturn (pc := 55) dX7_told_55 rfl (by first | rfl | decide) rfl ⟨_, rfl, ?_⟩
            refine ⟨Or.inl ⟨hok, ?_⟩, TF.refl μ⟩
            unfold toldV
            rw [if_neg (by omega), if_pos c40]
        · have c24 : j ≤ 5 := nI_le' (by omega) (by omega) (Int32.not_lt.mp c_24)
          have hpw : j = 0 ∨ j = 1 ∨ j = 10 ∨ (2 ≤ j ∧ j ≤ 5 ∧ nx p < v 0 3 ∧ p = nI (nx p)) := by
            by_cases h1 : 1 < j
            · exact Or.inr (Or.inr (Or.inr ⟨h1, by omega, cp h1, nx_lt (cp h1) (by omega)⟩))
            · omega
          refine g_aload_n (pc := 27) dX7_told_27 rfl ?_
          refine a_getr (pc := 28) (q := 1) fl_X7_10 dX7_told_28 (by first | rfl | assumption) rfl rfl ?_
          refine g_iload_n (pc := 31) dX7_told_31 rfl ?_
          refine g_iload_n (pc := 32) dX7_told_32 rfl ?_
          refine a_cv2i (pc := 33) (c_X5_item 1 hsb v μ hv j (nx p) p (by omega) hpw) m_X5_item ml_X7_69 (by omega) (by first | rfl | assumption) rfl rfl (Nat.le_of_ble_eq_true rfl) dX7_told_33 (fun x_33 μ_33 h_33 => ?_)
          obtain ⟨rfl, hm_33⟩ := h_33
          have hm_33 := hm_33.symm
          subst hm_33
          refine g_ireturn (pc := 36) dX7_told_36 rfl (by first | rfl | decide) rfl ⟨_, rfl, ?_⟩
          refine ⟨Or.inl ⟨hok, ?_⟩, TF.refl μ⟩
          unfold toldV
          rw [if_pos c24]
      · have c16 := (hd_13.resolve_right (fun q => c_16 q.1)).2
        have hno : ¬ toldOK v p (nI j) := fun ⟨a, b⟩ => by
          rw [j_j] at b
          exact c16.2 (b c16.1)
        refine g_bipush (pc := 19) (v := (-2)) dX7_told_19 (by decide) ?_
        refine g_ireturn (pc := 21) dX7_told_21 rfl (by first | rfl | decide) rfl ⟨_, rfl, ?_⟩
        exact ⟨Or.inr ⟨hno, rfl⟩, TF.refl μ⟩
def ironV (v : View) (f : Nat → Nat) : View := fun a b => if a = 3 ∧ b < v 0 3 then f b else v a b
theorem ironV_o (v : View) (f : Nat → Nat) {a b : Nat} (h : a ≠ 3) : ironV v f a b = v a b := if_neg (fun q => h q.1)
theorem ironV_3 (v : View) (f : Nat → Nat) {b : Nat} (h : b < v 0 3) : ironV v f 3 b = f b := if_pos ⟨rfl, h⟩
theorem SV.iron {μ μ1 : Mem} {sb : Nat} {v : View} {f : Nat → Nat} (h : SV μ sb v) (h1 : ∀ i, i ≠ 3 → i ≤ 4 → μ1 (sb + i) = μ (sb + i)) (h2 : ∀ p, p < v 0 3 → μ1 (sb + 3) p = nI (f p) ∧ f p ≤ 99) : SV μ1 sb (ironV v f) := by
  obtain ⟨e0, e1, e2, e3, hp⟩ := h
  have m0 : μ1 sb = μ sb := h1 0 (by omega) (by omega)
  refine ⟨by rw [m0, ironV_o v f (by omega)]; exact e0, by rw [m0, ironV_o v f (by omega)]; exact e1, by rw [m0, ironV_o v f (by omega)]; exact e2, by rw [m0, ironV_o v f (by omega)]; exact e3, fun p hpn => ?_⟩
  rw [ironV_o v f (by omega)] at hpn
  obtain ⟨q1, q2, q3, q4⟩ := hp p hpn
  rw [h1 1 (by omega) (by omega), h1 2 (by omega) (by omega), h1 4 (by omega) (by omega), ironV_o v f (a := 1) (by omega), ironV_o v f (a := 2) (by omega), ironV_o v f (a := 4) (by omega), ironV_3 v f hpn]
  exact ⟨q1, q2, h2 p hpn, q4⟩
theorem chs_one : ∀ n, n < 8 → ∀ p, p < n → chs (2 ^ p) n = [p] := by decide +kernel
theorem pow_lt : ∀ p, p < 7 → 2 ^ p < 128 := by decide
theorem c_X7_iron (v vk : View) (tc : Nat) (P : Nat → Nat → List Nat) (μ : Mem) (hX : XW μ v vk tc P) (p : Int32) : CA eI yX7_iron cX7_iron 2 (some .int) 5 [.ref 0, .int p] μ (fun r μ1 => (¬ nx p < v 0 3 ∧ r = -2 ∧ μ1 = μ) ∨ (nx p < v 0 3 ∧ r = nI (stF v (P (v 0 2)) 9 [nx p] 1 (nx p)) ∧ SV μ1 1 (ironV v (stF v (P (v 0 2)) 9 [nx p] 1)) ∧ TN μ μ1)) := by
  have hc := hX.cw
  have hv := hc.2.1
  have hsb : SB 1 := Or.inl rfl
  have hvb := hc.2.1.vb
  have hn7 := hvb.1
  have hsp := hX.2.2.2.2.2.2.1
  have h127 := chs_lo 127 (v 0 3)
  refine CT.of false (by decide) (by decide) (L := [some (.ref 0), some (.int p)]) rfl (Nat.le_of_ble_eq_true rfl) ?_
  refine g_aload_n (pc := 0) dX7_iron_0 rfl ?_
  refine a_getr (pc := 1) (q := 1) fl_X7_10 dX7_iron_1 (by first | rfl | assumption) rfl rfl ?_
  refine g_iload_n (pc := 4) dX7_iron_4 rfl ?_
  refine a_cv1i (pc := 5) (c_X5_has 1 hsb v μ hv p) m_X5_has ml_X7_109 (by omega) (by first | rfl | assumption) rfl rfl (Nat.le_of_ble_eq_true rfl) dX7_iron_5 (fun x_5 μ_5 h_5 => ?_)
  obtain ⟨hm_5, hd_5⟩ := h_5
  have hm_5 := hm_5.symm
  subst hm_5
  rw [has_nx (by omega)] at hd_5
  refine g_if_ne (pc := 8) (tgt := 14) dX7_iron_8 (by decide) (fun c_8 => ?_) (fun c_8 => ?_)
  · have c8 := (hd_5.resolve_right (fun q => c_8 q.1)).2
    have e_k := nx_lt c8 (by omega)
    generalize j_k : nx p = k at e_k c8
    subst e_k
    have hlo : LO [k] (v 0 3) := by
      rw [← chs_one (v 0 3) (by omega) k c8]
      exact chs_lo _ _
    refine g_aload_n (pc := 14) dX7_iron_14 rfl ?_
    refine a_getr (pc := 15) (q := 35) fl_X7_41 dX7_iron_15 (by first | rfl | assumption) rfl rfl ?_
    refine g_aload_n (pc := 18) dX7_iron_18 rfl ?_
    refine a_getr (pc := 19) (q := 1) fl_X7_10 dX7_iron_19 (by first | rfl | assumption) rfl rfl ?_
    refine g_iconst (pc := 22) (v := (nI 1)) dX7_iron_22 (by decide) ?_
    refine g_iload_n (pc := 23) dX7_iron_23 rfl ?_
    refine v_ishl (pc := 24) dX7_iron_24 (sh_lem k (by omega)) ?_
    refine a_cv2v (pc := 25) (c_X0_choose 1 hsb v μ hv (2 ^ k) (pow_lt k (by omega))) m_X0_choose ml_X7_113 (by omega) (by first | rfl | assumption) rfl rfl (Nat.le_of_ble_eq_true rfl) dX7_iron_25 (fun x_25 μ_25 h_25 => ?_)
    rw [chs_one (v 0 3) (by omega) k c8] at h_25
    obtain ⟨c25, o25, f25, w25, p25⟩ := hc.cho h_25
    refine g_aload_n (pc := 28) dX7_iron_28 rfl ?_
    refine a_getr (pc := 29) (q := 35) fl_X7_41 dX7_iron_29 (by first | rfl | assumption) rfl rfl ?_
    refine g_aload_n (pc := 32) dX7_iron_32 rfl ?_
    refine a_getr (pc := 33) (q := 1) fl_X7_10 dX7_iron_33 (by first | rfl | assumption) rfl rfl ?_
    refine a_cv1v (pc := 36) (c_X0_run 1 hsb v (P (v 0 2)) μ_25 c25.2.1 c25.2.2.1 9 (Or.inl ⟨p25.trans hsp, rfl⟩) _ o25 hlo c25.2.2.2) m_X0_run ml_X7_117 (by omega) (by first | rfl | assumption) rfl rfl (Nat.le_of_ble_eq_true rfl) dX7_iron_36 (fun x_36 μ_36 h_36 => ?_)
    obtain ⟨c36, o36, f36, w36, p36, r36⟩ := CW.ran c25 o25 hlo h_36
    have r36 : ∀ p, p < v 0 3 → μ_36 39 p = nI (stF v (P (v 0 2)) 9 [k] 1 p) ∧ stF v (P (v 0 2)) 9 [k] 1 p ≤ 99 := r36
    refine g_aload_n (pc := 39) dX7_iron_39 rfl ?_
    refine a_getr (pc := 40) (q := 35) fl_X7_41 dX7_iron_40 (by first | rfl | assumption) rfl rfl ?_
    refine a_cv0r (pc := 43) (c_X0_last μ_36 _ o36) m_X0_last ml_X7_120 (by omega) (by first | rfl | assumption) rfl rfl (Nat.le_of_ble_eq_true rfl) dX7_iron_43 (fun x_43 μ_43 h_43 => ?_)
    obtain ⟨rfl, hm_43⟩ := h_43
    have hm_43 := hm_43.symm
    subst hm_43
    refine g_iconst (pc := 46) (v := (nI 0)) dX7_iron_46 (by decide) ?_
    refine g_aload_n (pc := 47) dX7_iron_47 rfl ?_
    refine a_getr (pc := 48) (q := 1) fl_X7_10 dX7_iron_48 (by first | rfl | assumption) rfl rfl ?_
    refine a_getr (pc := 51) (q := 4) fl_X7_97 dX7_iron_51 (by first | rfl | assumption) rfl rfl ?_
    refine g_iconst (pc := 54) (v := (nI 0)) dX7_iron_54 (by decide) ?_
    refine g_aload_n (pc := 55) dX7_iron_55 rfl ?_
    refine a_getr (pc := 56) (q := 1) fl_X7_10 dX7_iron_56 (by first | rfl | assumption) rfl rfl ?_
    refine v_geti (pc := 59) fl_X7_82 dX7_iron_59 (by first | rfl | assumption) rfl c36.2.1.2.2.2.1.1 ?_
    refine a_copy (pc := 62) (sp := 0) (dp := 0) (n := v 0 3) ml_X7_124 (by omega) (Nat.le_of_ble_eq_true rfl) dX7_iron_62 (show sh 39 = (0, 7) from rfl) (show sh 4 = (0, 7) from rfl) rfl rfl rfl (by omega) (by omega) ?_
    have hsv : SV (mcopy μ_36 39 0 4 0 (v 0 3)) 1 (ironV v (stF v (P (v 0 2)) 9 [k] 1)) := c36.2.1.iron (fun i h1 h2 => mcopy_ne (by omega)) (fun p hp => ⟨(mcopy_eq hp).trans (r36 p hp).1, (r36 p hp).2⟩)
    have hfr : TN μ (mcopy μ_36 39 0 4 0 (v 0 3)) := (f25.trans f36).tf.tn.trans ⟨fun c hc => mcopy_ne (by omega), congrFun (mcopy_ne (by omega)) 0, congrFun (mcopy_ne (by omega)) 3⟩
    refine g_aload_n (pc := 65) dX7_iron_65 rfl ?_
    refine a_getr (pc := 66) (q := 1) fl_X7_10 dX7_iron_66 (by first | rfl | assumption) rfl rfl ?_
    refine a_getr (pc := 69) (q := 4) fl_X7_97 dX7_iron_69 (by first | rfl | assumption) rfl rfl ?_
    refine g_iload_n (pc := 72) dX7_iron_72 rfl ?_
    refine v_iald (pc := 73) dX7_iron_73 (by first | rfl | assumption) rfl (by omega) ((mcopy_eq c8).trans (r36 k c8).1) ?_
    refine g_ireturn (pc := 74) dX7_iron_74 rfl (by first | rfl | decide) rfl ⟨_, rfl, ?_⟩
    exact Or.inr ⟨c8, rfl, hsv, hfr⟩
  · have c8 := (hd_5.resolve_left (fun q => absurd (q.1.symm.trans c_8) (by decide))).2
    refine g_bipush (pc := 11) (v := (-2)) dX7_iron_11 (by decide) ?_
    refine g_ireturn (pc := 13) dX7_iron_13 rfl (by first | rfl | decide) rfl ⟨_, rfl, ?_⟩
    exact Or.inl ⟨c8, rfl, rfl⟩
def cntV (v : View) (tc tn : Nat) (w : Int32) : Int32 := if w = nI 0 then nI (v 0 3) else if w = nI 1 then nI tc else if w = nI 2 then nI tn else if w = nI 3 then nI (v 0 2) else if w = nI 4 then nI (csum v (v 3) (v 0 3)) else -2
theorem c_X7_count (v vk : View) (tc : Nat) (P : Nat → Nat → List Nat) (μ : Mem) (hX : XW μ v vk tc P) (tn : Nat) (ht : μ 33 1 = nI tn) (w : Int32) : CA eI yX7_count cX7_count 2 (some .int) 2 [.ref 0, .int w] μ (fun r μ1 => r = cntV v tc tn w ∧ μ1 = μ) := by
  have hc := hX.cw
  have hv := hc.2.1
  have hsb : SB 1 := Or.inl rfl
  have hvb := hc.2.1.vb
  have hn7 := hvb.1
  have hsp := hX.2.2.2.2.2.2.1
  have h127 := chs_lo 127 (v 0 3)
  refine CT.of false (by decide) (by decide) (L := [some (.ref 0), some (.int w)]) rfl (Nat.le_of_ble_eq_true rfl) ?_
  refine g_iload_n (pc := 0) dX7_count_0 rfl ?_
  by_cases k_1_0 : w = nI 0
  · refine g_tableIn (pc := 1) (off := 35) (tgt := 36) dX7_count_1 (by rw [k_1_0]; decide) (by rw [k_1_0]; decide) (by rw [k_1_0]; decide) (by decide) ?_
    refine g_aload_n (pc := 36) dX7_count_36 rfl ?_
    refine a_getr (pc := 37) (q := 1) fl_X7_10 dX7_count_37 (by first | rfl | assumption) rfl rfl ?_
    refine v_geti (pc := 40) fl_X7_82 dX7_count_40 (by first | rfl | assumption) rfl hv.2.2.2.1.1 ?_
    refine g_ireturn (pc := 43) dX7_count_43 rfl (by first | rfl | decide) rfl ⟨_, rfl, ?_⟩
    refine ⟨?_, rfl⟩
    unfold cntV
    first | (rw [if_pos k_1_0]; done) | (rw [if_neg k_1_0, if_pos k_1_1]; done) | (rw [if_neg k_1_0, if_neg k_1_1, if_pos k_1_2]; done) | (rw [if_neg k_1_0, if_neg k_1_1, if_neg k_1_2, if_pos k_1_3]; done) | (rw [if_neg k_1_0, if_neg k_1_1, if_neg k_1_2, if_neg k_1_3, if_pos k_1_4]; done) | (rw [if_neg k_1_0, if_neg k_1_1, if_neg k_1_2, if_neg k_1_3, if_neg k_1_4]; done)
  by_cases k_1_1 : w = nI 1
  · refine g_tableIn (pc := 1) (off := 43) (tgt := 44) dX7_count_1 (by rw [k_1_1]; decide) (by rw [k_1_1]; decide) (by rw [k_1_1]; decide) (by decide) ?_
    refine g_aload_n (pc := 44) dX7_count_44 rfl ?_
    refine a_getr (pc := 45) (q := 16) fl_X7_25 dX7_count_45 (by first | rfl | assumption) rfl rfl ?_
    refine v_geti (pc := 48) fl_X7_136 dX7_count_48 (by first | rfl | assumption) rfl hX.2.2.1.1 ?_
    refine g_ireturn (pc := 51) dX7_count_51 rfl (by first | rfl | decide) rfl ⟨_, rfl, ?_⟩
    refine ⟨?_, rfl⟩
    unfold cntV
    first | (rw [if_pos k_1_0]; done) | (rw [if_neg k_1_0, if_pos k_1_1]; done) | (rw [if_neg k_1_0, if_neg k_1_1, if_pos k_1_2]; done) | (rw [if_neg k_1_0, if_neg k_1_1, if_neg k_1_2, if_pos k_1_3]; done) | (rw [if_neg k_1_0, if_neg k_1_1, if_neg k_1_2, if_neg k_1_3, if_pos k_1_4]; done) | (rw [if_neg k_1_0, if_neg k_1_1, if_neg k_1_2, if_neg k_1_3, if_neg k_1_4]; done)
  by_cases k_1_2 : w = nI 2
  · refine g_tableIn (pc := 1) (off := 51) (tgt := 52) dX7_count_1 (by rw [k_1_2]; decide) (by rw [k_1_2]; decide) (by rw [k_1_2]; decide) (by decide) ?_
    refine g_aload_n (pc := 52) dX7_count_52 rfl ?_
    refine a_getr (pc := 53) (q := 33) fl_X7_32 dX7_count_53 (by first | rfl | assumption) rfl rfl ?_
    refine v_geti (pc := 56) fl_X7_133 dX7_count_56 (by first | rfl | assumption) rfl ht ?_
    refine g_ireturn (pc := 59) dX7_count_59 rfl (by first | rfl | decide) rfl ⟨_, rfl, ?_⟩
    refine ⟨?_, rfl⟩
    unfold cntV
    first | (rw [if_pos k_1_0]; done) | (rw [if_neg k_1_0, if_pos k_1_1]; done) | (rw [if_neg k_1_0, if_neg k_1_1, if_pos k_1_2]; done) | (rw [if_neg k_1_0, if_neg k_1_1, if_neg k_1_2, if_pos k_1_3]; done) | (rw [if_neg k_1_0, if_neg k_1_1, if_neg k_1_2, if_neg k_1_3, if_pos k_1_4]; done) | (rw [if_neg k_1_0, if_neg k_1_1, if_neg k_1_2, if_neg k_1_3, if_neg k_1_4]; done)
  by_cases k_1_3 : w = nI 3
  · refine g_tableIn (pc := 1) (off := 59) (tgt := 60) dX7_count_1 (by rw [k_1_3]; decide) (by rw [k_1_3]; decide) (by rw [k_1_3]; decide) (by decide) ?_
    refine g_aload_n (pc := 60) dX7_count_60 rfl ?_
    refine a_getr (pc := 61) (q := 1) fl_X7_10 dX7_count_61 (by first | rfl | assumption) rfl rfl ?_
    refine v_geti (pc := 64) fl_X7_148 dX7_count_64 (by first | rfl | assumption) rfl hv.2.2.1.1 ?_
    refine g_ireturn (pc := 67) dX7_count_67 rfl (by first | rfl | decide) rfl ⟨_, rfl, ?_⟩
    refine ⟨?_, rfl⟩
    unfold cntV
    first | (rw [if_pos k_1_0]; done) | (rw [if_neg k_1_0, if_pos k_1_1]; done) | (rw [if_neg k_1_0, if_neg k_1_1, if_pos k_1_2]; done) | (rw [if_neg k_1_0, if_neg k_1_1, if_neg k_1_2, if_pos k_1_3]; done) | (rw [if_neg k_1_0, if_neg k_1_1, if_neg k_1_2, if_neg k_1_3, if_pos k_1_4]; done) | (rw [if_neg k_1_0, if_neg k_1_1, if_neg k_1_2, if_neg k_1_3, if_neg k_1_4]; done)
  by_cases k_1_4 : w = nI 4
  · refine g_tableIn (pc := 1) (off := 67) (tgt := 68) dX7_count_1 (by rw [k_1_4]; decide) (by rw [k_1_4]; decide) (by rw [k_1_4]; decide) (by decide) ?_
    refine g_aload_n (pc := 68) dX7_count_68 rfl ?_
    refine a_getr (pc := 69) (q := 1) fl_X7_10 dX7_count_69 (by first | rfl | assumption) rfl rfl ?_
    refine g_aload_n (pc := 72) dX7_count_72 rfl ?_
    refine a_getr (pc := 73) (q := 1) fl_X7_10 dX7_count_73 (by first | rfl | assumption) rfl rfl ?_
    refine a_getr (pc := 76) (q := 4) fl_X7_97 dX7_count_76 (by first | rfl | assumption) rfl rfl ?_
    refine a_cv1i (pc := 79) (c_X5_creasedBy 1 hsb v μ hv 4 rfl (v 3) (fun p hp => (hv.2.2.2.2 p hp).2.2.1)) m_X5_creasedBy ml_X7_232 (by omega) (by first | rfl | assumption) rfl rfl (Nat.le_of_ble_eq_true rfl) dX7_count_79 (fun x_79 μ_79 h_79 => ?_)
    obtain ⟨rfl, hm_79⟩ := h_79
    have hm_79 := hm_79.symm
    subst hm_79
    refine g_ireturn (pc := 82) dX7_count_82 rfl (by first | rfl | decide) rfl ⟨_, rfl, ?_⟩
    refine ⟨?_, rfl⟩
    unfold cntV
    first | (rw [if_pos k_1_0]; done) | (rw [if_neg k_1_0, if_pos k_1_1]; done) | (rw [if_neg k_1_0, if_neg k_1_1, if_pos k_1_2]; done) | (rw [if_neg k_1_0, if_neg k_1_1, if_neg k_1_2, if_pos k_1_3]; done) | (rw [if_neg k_1_0, if_neg k_1_1, if_neg k_1_2, if_neg k_1_3, if_pos k_1_4]; done) | (rw [if_neg k_1_0, if_neg k_1_1, if_neg k_1_2, if_neg k_1_3, if_neg k_1_4]; done)
  have kd_1 : (w).toInt < 0 ∨ 4 < (w).toInt := by
    have w_0 := lv_neT (a := 0) k_1_0 (by decide)
    have w_1 := lv_neT (a := 1) k_1_1 (by decide)
    have w_2 := lv_neT (a := 2) k_1_2 (by decide)
    have w_3 := lv_neT (a := 3) k_1_3 (by decide)
    have w_4 := lv_neT (a := 4) k_1_4 (by decide)
    omega
  refine g_tableOut (pc := 1) (tgt := 83) dX7_count_1 kd_1 (by decide) ?_
  refine g_bipush (pc := 83) (v := (-2)) dX7_count_83 (by decide) ?_
  refine g_ireturn (pc := 85) dX7_count_85 rfl (by first | rfl | decide) rfl ⟨_, rfl, ?_⟩
  refine ⟨?_, rfl⟩
  unfold cntV
  first | (rw [if_pos k_1_0]; done) | (rw [if_neg k_1_0, if_pos k_1_1]; done) | (rw [if_neg k_1_0, if_neg k_1_1, if_pos k_1_2]; done) | (rw [if_neg k_1_0, if_neg k_1_1, if_neg k_1_2, if_pos k_1_3]; done) | (rw [if_neg k_1_0, if_neg k_1_1, if_neg k_1_2, if_neg k_1_3, if_pos k_1_4]; done) | (rw [if_neg k_1_0, if_neg k_1_1, if_neg k_1_2, if_neg k_1_3, if_neg k_1_4]; done)
theorem c_X7_image (v vk : View) (tc : Nat) (P : Nat → Nat → List Nat) (μ : Mem) (hX : XW μ v vk tc P) : CA eI yX7_image cX7_image 1 (some .int) 2 [.ref 0] μ (fun r μ1 => r = nI (v 0 3) ∧ SV μ1 6 v ∧ μ1 0 8 = nI 1 ∧ (∀ j, j ≠ 8 → μ1 0 j = μ 0 j) ∧ ∀ c, c ≠ 0 → (c < 6 ∨ 10 < c) → μ1 c = μ c) := by
  have hc := hX.cw
  have hv := hc.2.1
  have hsb : SB 1 := Or.inl rfl
  have hvb := hc.2.1.vb
  have hn7 := hvb.1
  have hsp := hX.2.2.2.2.2.2.1
  have h127 := chs_lo 127 (v 0 3)
  refine CT.of false (by decide) (by decide) (L := [some (.ref 0)]) rfl (Nat.le_of_ble_eq_true rfl) ?_
  refine g_aload_n (pc := 0) dX7_image_0 rfl ?_
  refine a_getr (pc := 1) (q := 6) fl_X7_16 dX7_image_1 (by first | rfl | assumption) rfl rfl ?_
  refine g_aload_n (pc := 4) dX7_image_4 rfl ?_
  refine a_getr (pc := 5) (q := 1) fl_X7_10 dX7_image_5 (by first | rfl | assumption) rfl rfl ?_
  refine a_cv1v (pc := 8) (c_X5_become 6 1 (Or.inr (Or.inl rfl)) hsb (by omega) μ) m_X5_become ml_X7_214 (by omega) (by first | rfl | assumption) rfl rfl (Nat.le_of_ble_eq_true rfl) dX7_image_8 (fun x_8 μ_8 h_8 => ?_)
  have d8 := hv.bec_of h_8
  obtain ⟨b1, b2, b3⟩ := h_8
  refine g_aload_n (pc := 11) dX7_image_11 rfl ?_
  refine g_iconst (pc := 12) (v := (nI 1)) dX7_image_12 (by decide) ?_
  refine a_putz (pc := 13) fw_X7_228 dX7_image_13 (by first | rfl | assumption) rfl (by decide) ?_
  refine g_aload_n (pc := 16) dX7_image_16 rfl ?_
  refine a_getr (pc := 17) (q := 6) fl_X7_16 dX7_image_17 (by first | rfl | assumption) rfl rfl ?_
  refine v_geti (pc := 20) fl_X7_82 dX7_image_20 (by first | rfl | assumption) rfl ((congrFun (mset_ne (by omega)) 3).trans d8.2.2.2.1.1) ?_
  refine g_ireturn (pc := 23) dX7_image_23 rfl (by first | rfl | decide) rfl ⟨_, rfl, ?_⟩
  exact ⟨rfl, d8.moved (fun k _ _ => mset_ne (by omega)), mset_eq, fun j hj => (mset_nj hj).trans (congrFun (b3 0 (by omega)) j), fun c h0 h1 => (mset_ne h0).trans (b3 c (by omega))⟩
theorem c_X7_back (v vk : View) (tc : Nat) (P : Nat → Nat → List Nat) (μ : Mem) (hX : XW μ v vk tc P) (im : Bool) (hm : μ 0 8 = if im then nI 1 else nI 0) : CA eI yX7_back cX7_back 1 (some .int) 2 [.ref 0] μ (fun r μ1 => (im = false ∧ r = -3 ∧ μ1 = μ) ∨ (im = true ∧ r = nI (vk 0 3) ∧ SV μ1 1 vk ∧ ∀ c, c = 0 ∨ 5 < c → μ1 c = μ c)) := by
  have hc := hX.cw
  have hv := hc.2.1
  have hsb : SB 1 := Or.inl rfl
  have hvb := hc.2.1.vb
  have hn7 := hvb.1
  have hsp := hX.2.2.2.2.2.2.1
  have h127 := chs_lo 127 (v 0 3)
  refine CT.of false (by decide) (by decide) (L := [some (.ref 0)]) rfl (Nat.le_of_ble_eq_true rfl) ?_
  refine g_aload_n (pc := 0) dX7_back_0 rfl ?_
  refine v_getz (pc := 1) fl_X7_228 dX7_back_1 (by first | rfl | assumption) rfl hm ?_
  refine g_if_ne (pc := 4) (tgt := 10) dX7_back_4 (by decide) (fun c_4 => ?_) (fun c_4 => ?_)
  · have him : im = true := by
      cases im with
      | true => rfl
      | false => exact absurd rfl c_4
    refine g_aload_n (pc := 10) dX7_back_10 rfl ?_
    refine a_getr (pc := 11) (q := 1) fl_X7_10 dX7_back_11 (by first | rfl | assumption) rfl rfl ?_
    refine g_aload_n (pc := 14) dX7_back_14 rfl ?_
    refine a_getr (pc := 15) (q := 6) fl_X7_16 dX7_back_15 (by first | rfl | assumption) rfl rfl ?_
    refine a_cv1v (pc := 18) (c_X5_become 1 6 hsb (Or.inr (Or.inl rfl)) (by omega) μ) m_X5_become ml_X7_214 (by omega) (by first | rfl | assumption) rfl rfl (Nat.le_of_ble_eq_true rfl) dX7_back_18 (fun x_18 μ_18 h_18 => ?_)
    have d18 := hX.2.1.bec_of h_18
    obtain ⟨b1, b2, b3⟩ := h_18
    refine g_aload_n (pc := 21) dX7_back_21 rfl ?_
    refine a_getr (pc := 22) (q := 1) fl_X7_10 dX7_back_22 (by first | rfl | assumption) rfl rfl ?_
    refine v_geti (pc := 25) fl_X7_82 dX7_back_25 (by first | rfl | assumption) rfl d18.2.2.2.1.1 ?_
    refine g_ireturn (pc := 28) dX7_back_28 rfl (by first | rfl | decide) rfl ⟨_, rfl, ?_⟩
    first | exact Or.inl ⟨him, rfl, rfl⟩ | exact Or.inr ⟨him, rfl, d18, fun c h => b3 c (by omega)⟩
  · have him : im = false := by
      cases im with
      | false => rfl
      | true => exact absurd c_4 (by decide)
    refine g_bipush (pc := 7) (v := (-3)) dX7_back_7 (by decide) ?_
    refine g_ireturn (pc := 9) dX7_back_9 rfl (by first | rfl | decide) rfl ⟨_, rfl, ?_⟩
    first | exact Or.inl ⟨him, rfl, rfl⟩ | exact Or.inr ⟨him, rfl, d18, fun c h => b3 c (by omega)⟩
def takV (v : View) (p k : Int32) : Int32 := if ¬ nx k ≤ 5 then -2 else if ¬ nx p < v 0 3 then -11 else if kUnd (v 1 (nx p)) (nx k) then nI (v 2 (nx p)) else -13
theorem c_X7_taken (v vk : View) (tc : Nat) (P : Nat → Nat → List Nat) (μ : Mem) (hX : XW μ v vk tc P) (p k : Int32) : CA eI yX7_taken cX7_taken 3 (some .int) 2 [.ref 0, .int p, .int k] μ (fun r μ1 => r = takV v p k ∧ μ1 = μ) := by
  have hc := hX.cw
  have hv := hc.2.1
  have hsb : SB 1 := Or.inl rfl
  have hvb := hc.2.1.vb
  have hn7 := hvb.1
  have hsp := hX.2.2.2.2.2.2.1
  have h127 := chs_lo 127 (v 0 3)
  refine CT.of false (by decide) (by decide) (L := [some (.ref 0), some (.int p), some (.int k)]) rfl (Nat.le_of_ble_eq_true rfl) ?_
  refine g_iload_n (pc := 0) dX7_taken_0 rfl ?_
  refine g_if_lt (pc := 1) (tgt := 10) dX7_taken_1 (by decide) (fun c_1 => ?_) (fun c_1 => ?_)
  · have hno : ¬ nx k ≤ 5 := by
      have := nx_neg c_1
      omega
    refine g_bipush (pc := 10) (v := (-2)) dX7_taken_10 (by decide) ?_
    refine g_ireturn (pc := 12) dX7_taken_12 rfl (by first | rfl | decide) rfl ⟨_, rfl, ?_⟩
    refine ⟨?_, rfl⟩
    unfold takV
    first | (rw [if_pos hno]; done) | (rw [if_neg c7b, if_pos c21]; done) | (rw [if_neg c7b, if_neg c21b, j_m, j_j, if_pos c40]; done) | (rw [if_neg c7b, if_neg c21b, j_m, j_j, if_neg c40]; done)
  · obtain ⟨e_j, b_j⟩ := nx_of c_1
    generalize j_j : nx k = j at e_j b_j
    subst e_j
    refine g_iload_n (pc := 4) dX7_taken_4 rfl ?_
    refine g_bipush (pc := 5) (v := (nI 6)) dX7_taken_5 (by decide) ?_
    refine g_icmp_lt (pc := 7) (tgt := 13) dX7_taken_7 (by decide) (fun c_7 => ?_) (fun c_7 => ?_)
    · have c7 : j < 6 := nI_lt' (by omega) (by omega) c_7
      have c7b : ¬ ¬ nx (nI j) ≤ 5 := by
        rw [j_j]
        omega
      refine g_aload_n (pc := 13) dX7_taken_13 rfl ?_
      refine a_getr (pc := 14) (q := 1) fl_X7_10 dX7_taken_14 (by first | rfl | assumption) rfl rfl ?_
      refine g_iload_n (pc := 17) dX7_taken_17 rfl ?_
      refine a_cv1i (pc := 18) (c_X5_has 1 hsb v μ hv p) m_X5_has ml_X7_109 (by omega) (by first | rfl | assumption) rfl rfl (Nat.le_of_ble_eq_true rfl) dX7_taken_18 (fun x_18 μ_18 h_18 => ?_)
      obtain ⟨hm_18, hd_18⟩ := h_18
      have hm_18 := hm_18.symm
      subst hm_18
      rw [has_nx (by omega)] at hd_18
      refine g_if_ne (pc := 21) (tgt := 27) dX7_taken_21 (by decide) (fun c_21 => ?_) (fun c_21 => ?_)
      · have c21 := (hd_18.resolve_right (fun q => c_21 q.1)).2
        have e_m := nx_lt c21 (by omega)
        generalize j_m : nx p = m at e_m c21
        subst e_m
        have c21b : ¬ ¬ nx (nI m) < v 0 3 := by
          rw [j_m]
          exact fun h => h c21
        refine g_aload_n (pc := 27) dX7_taken_27 rfl ?_
        refine a_getr (pc := 28) (q := 1) fl_X7_10 dX7_taken_28 (by first | rfl | assumption) rfl rfl ?_
        refine a_getr (pc := 31) (q := 2) fl_X7_86 dX7_taken_31 (by first | rfl | assumption) rfl rfl ?_
        refine g_iload_n (pc := 34) dX7_taken_34 rfl ?_
        refine v_iald (pc := 35) dX7_taken_35 (by first | rfl | assumption) rfl (by omega) (hv.2.2.2.2 m c21).1.1 ?_
        refine g_iload_n (pc := 36) dX7_taken_36 rfl ?_
        refine a_cs2i (pc := 37) (c_X1_isUnder (v 1 m) j (hv.2.2.2.2 m c21).1.2 (by omega) μ) m_X1_isUnder ml_X7_250 (by omega) (Nat.le_of_ble_eq_true rfl) dX7_taken_37 (fun x_37 μ_37 h_37 => ?_)
        obtain ⟨rfl, hm_37⟩ := h_37
        have hm_37 := hm_37.symm
        subst hm_37
        refine g_if_eq (pc := 40) (tgt := 55) dX7_taken_40 (by decide) (fun c_40 => ?_) (fun c_40 => ?_)
        · have c40 : ¬ kUnd (v 1 m) j = true := fun h => by
            rw [if_pos h] at c_40
            exact absurd c_40 (by decide)
          refine g_bipush (pc := 55) (v := (-13)) dX7_taken_55 (by decide) ?_
          refine g_ireturn (pc := 57) dX7_taken_57 rfl (by first | rfl | decide) rfl ⟨_, rfl, ?_⟩
          refine ⟨?_, rfl⟩
          unfold takV
          first | (rw [if_pos hno]; done) | (rw [if_neg c7b, if_pos c21]; done) | (rw [if_neg c7b, if_neg c21b, j_m, j_j, if_pos c40]; done) | (rw [if_neg c7b, if_neg c21b, j_m, j_j, if_neg c40]; done)
        · have c40 : kUnd (v 1 m) j = true := Decidable.of_not_not (fun h => c_40 (by rw [if_neg h]; rfl))
          refine g_aload_n (pc := 43) dX7_taken_43 rfl ?_
          refine a_getr (pc := 44) (q := 1) fl_X7_10 dX7_taken_44 (by first | rfl | assumption) rfl rfl ?_
          refine a_getr (pc := 47) (q := 3) fl_X7_253 dX7_taken_47 (by first | rfl | assumption) rfl rfl ?_
          refine g_iload_n (pc := 50) dX7_taken_50 rfl ?_
          refine v_iald (pc := 51) dX7_taken_51 (by first | rfl | assumption) rfl (by omega) (hv.2.2.2.2 m c21).2.1.1 ?_
          refine g_goto (pc := 52) (tgt := 57) dX7_taken_52 (by decide) ?_
          refine g_ireturn (pc := 57) dX7_taken_57 rfl (by first | rfl | decide) rfl ⟨_, rfl, ?_⟩
          refine ⟨?_, rfl⟩
          unfold takV
          first | (rw [if_pos hno]; done) | (rw [if_neg c7b, if_pos c21]; done) | (rw [if_neg c7b, if_neg c21b, j_m, j_j, if_pos c40]; done) | (rw [if_neg c7b, if_neg c21b, j_m, j_j, if_neg c40]; done)
      · have c21 := (hd_18.resolve_left (fun q => absurd (q.1.symm.trans c_21) (by decide))).2
        refine g_bipush (pc := 24) (v := (-11)) dX7_taken_24 (by decide) ?_
        refine g_ireturn (pc := 26) dX7_taken_26 rfl (by first | rfl | decide) rfl ⟨_, rfl, ?_⟩
        refine ⟨?_, rfl⟩
        unfold takV
        first | (rw [if_pos hno]; done) | (rw [if_neg c7b, if_pos c21]; done) | (rw [if_neg c7b, if_neg c21b, j_m, j_j, if_pos c40]; done) | (rw [if_neg c7b, if_neg c21b, j_m, j_j, if_neg c40]; done)
    · have c7 : 6 ≤ j := nI_ge' (by omega) (by omega) c_7
      have hno : ¬ nx (nI j) ≤ 5 := by
        rw [j_j]
        omega
      refine g_bipush (pc := 10) (v := (-2)) dX7_taken_10 (by decide) ?_
      refine g_ireturn (pc := 12) dX7_taken_12 rfl (by first | rfl | decide) rfl ⟨_, rfl, ?_⟩
      refine ⟨?_, rfl⟩
      unfold takV
      first | (rw [if_pos hno]; done) | (rw [if_neg c7b, if_pos c21]; done) | (rw [if_neg c7b, if_neg c21b, j_m, j_j, if_pos c40]; done) | (rw [if_neg c7b, if_neg c21b, j_m, j_j, if_neg c40]; done)
