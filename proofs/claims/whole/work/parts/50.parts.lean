/-! ===== the class: parts ===== -/
def paS (v : View) (g : Nat → Int32) (f : Nat) : Nat → View × Nat
  | 0 => (v, 0)
  | i + 1 => if partOK (g (f + 2 * i)) (g (f + 2 * i + 1)) ∧ (paS v g f i).1 0 3 < 7 then (addV (paS v g f i).1 (nx (g (f + 2 * i))) (nx (g (f + 2 * i + 1))), (paS v g f i).2 + 1) else paS v g f i
theorem paS_rule (v : View) (g : Nat → Int32) (f : Nat) : ∀ i, (paS v g f i).1 0 2 = v 0 2
  | 0 => rfl
  | i + 1 => by
    have ih := paS_rule v g f i
    rw [paS]
    split
    · exact ((addV_0 _ _ _).2.2.1).trans ih
    · exact ih
theorem at_lem {x : Int32} {i n : Nat} (hn : n ≤ 40) (hi : i ≤ 7) (h : i = 0 ∨ nx x + 2 * (i - 1) + 1 < n) : ∃ y, x + nI 2 * nI i = y ∧ (nx y < n ↔ nx x + 2 * i < n) ∧ (nx y < n → y = nI (nx x + 2 * i)) := by
  refine ⟨_, rfl, ?_⟩
  by_cases h0 : i = 0
  · subst h0
    rw [show x + nI 2 * nI 0 = x by rw [pk_mul]; show x + 0 = x; exact Int32.add_zero x]
    exact ⟨by omega, fun hx => nx_lt (x := x) (n := n) (by omega) (by omega)⟩
  · have hx : nx x < n := by omega
    have e := nx_lt hx (by omega)
    generalize nx x = f at e h hx
    subst e
    rw [pk_mul, nI_add, nx_nI (by omega)]
    exact ⟨Iff.rfl, fun _ => rfl⟩
abbrev partsA (s so n : Int32) : Prop := nx s < 4 ∧ nx so ≤ 2 ∧ nx n ≤ 7
theorem c_X7_parts (v : View) (μ : Mem) (hv : SV μ 1 v) (zs : Nat → Int32) (zn : Nat → Nat) (zi : Nat → Nat → Int32) (hz : ZA μ zs zn zi) (s so x n : Int32) : CA eI yX7_parts cX7_parts 8 (some .int) 2 [.ref 0, .int s, .int so, .int x, .int n] μ (fun r μ1 => (¬ partsA s so n ∧ r = -2 ∧ μ1 = μ) ∨ (partsA s so n ∧ zs (nx s) = -1 ∧ r = -11 ∧ μ1 = μ) ∨ (partsA s so n ∧ ¬ zs (nx s) = -1 ∧ ¬ zs (nx s) = so ∧ r = -13 ∧ μ1 = μ) ∨ (partsA s so n ∧ ¬ zs (nx s) = -1 ∧ zs (nx s) = so ∧ ∃ i, i ≤ nx n ∧ SV μ1 1 (paS v (zi (nx s)) (nx x) i).1 ∧ (∀ c, c = 0 ∨ 5 < c → μ1 c = μ c) ∧ (∀ j, j < i → nx x + 2 * j + 1 < zn (nx s)) ∧ ((i = nx n ∧ r = nI (paS v (zi (nx s)) (nx x) i).2) ∨ (i < nx n ∧ ¬ nx x + 2 * i + 1 < zn (nx s) ∧ r = -12)))) := by
  refine CT.of false (by decide) (by decide) (L := [some (.ref 0), some (.int s), some (.int so), some (.int x), some (.int n), none, none, none]) rfl (Nat.le_of_ble_eq_true rfl) ?_
  refine g_aload_n (pc := 0) dX7_parts_0 rfl ?_
  refine a_getr (pc := 1) (q := 49) fl_X7_57 dX7_parts_1 (by first | rfl | assumption) rfl rfl ?_
  refine g_iload_n (pc := 4) dX7_parts_4 rfl ?_
  refine a_cv1i (pc := 5) (c_X4_has μ s) m_X4_has ml_X7_158 (by omega) (by first | rfl | assumption) rfl rfl (Nat.le_of_ble_eq_true rfl) dX7_parts_5 (fun x_5 μ_5 h_5 => ?_)
  obtain ⟨hm_5, hd_5⟩ := h_5
  have hm_5 := hm_5.symm
  subst hm_5
  rw [has_nx (by omega)] at hd_5
  refine g_if_eq (pc := 8) (tgt := 32) dX7_parts_8 (by decide) (fun c_8 => ?_) (fun c_8 => ?_)
  · have c8 := (hd_5.resolve_left (fun q => absurd (q.1.symm.trans c_8) (by decide))).2
    have hno : ¬ partsA s so n := fun h => c8 h.1
    refine g_bipush (pc := 32) (v := (-2)) dX7_parts_32 (by decide) ?_
    refine g_ireturn (pc := 34) dX7_parts_34 rfl (by first | rfl | decide) rfl ⟨_, rfl, ?_⟩
    exact Or.inl ⟨hno, rfl, rfl⟩
  · have c8 := (hd_5.resolve_right (fun q => c_8 q.1)).2
    have e_a := nx_lt c8 (by omega)
    generalize j_a : nx s = a at e_a c8
    subst e_a
    refine g_iload_n (pc := 11) dX7_parts_11 rfl ?_
    refine g_if_lt (pc := 12) (tgt := 32) dX7_parts_12 (by decide) (fun c_12 => ?_) (fun c_12 => ?_)
    · have hno : ¬ partsA (nI a) so n := fun h => by
        have h2 := h.2.1
        rw [nx_neg c_12] at h2
        omega
      refine g_bipush (pc := 32) (v := (-2)) dX7_parts_32 (by decide) ?_
      refine g_ireturn (pc := 34) dX7_parts_34 rfl (by first | rfl | decide) rfl ⟨_, rfl, ?_⟩
      exact Or.inl ⟨hno, rfl, rfl⟩
    · obtain ⟨e_o, b_o⟩ := nx_of c_12
      refine g_iload_n (pc := 15) dX7_parts_15 rfl ?_
      refine g_iconst (pc := 16) (v := (nI 2)) dX7_parts_16 (by decide) ?_
      refine g_icmp_gt (pc := 17) (tgt := 32) dX7_parts_17 (by decide) (fun c_17 => ?_) (fun c_17 => ?_)
      · have c17 : ¬ nx so ≤ 2 := by
          have h3 := c_17
          rw [e_o] at h3
          exact Nat.not_le.mpr (nI_lt' (by omega) b_o h3)
        have hno : ¬ partsA (nI a) so n := fun h => c17 h.2.1
        refine g_bipush (pc := 32) (v := (-2)) dX7_parts_32 (by decide) ?_
        refine g_ireturn (pc := 34) dX7_parts_34 rfl (by first | rfl | decide) rfl ⟨_, rfl, ?_⟩
        exact Or.inl ⟨hno, rfl, rfl⟩
      · have c17 : nx so ≤ 2 := by
          have h3 := c_17
          rw [e_o] at h3
          exact nI_ge' (by omega) b_o h3
        refine g_iload (pc := 20) dX7_parts_20 rfl ?_
        refine g_if_lt (pc := 22) (tgt := 32) dX7_parts_22 (by decide) (fun c_22 => ?_) (fun c_22 => ?_)
        · have hno : ¬ partsA (nI a) so n := fun h => by
            have h2 := h.2.2
            rw [nx_neg c_22] at h2
            omega
          refine g_bipush (pc := 32) (v := (-2)) dX7_parts_32 (by decide) ?_
          refine g_ireturn (pc := 34) dX7_parts_34 rfl (by first | rfl | decide) rfl ⟨_, rfl, ?_⟩
          exact Or.inl ⟨hno, rfl, rfl⟩
        · obtain ⟨e_m, b_m⟩ := nx_of c_22
          generalize j_m : nx n = m at e_m b_m
          subst e_m
          refine g_iload (pc := 25) dX7_parts_25 rfl ?_
          refine g_bipush (pc := 27) (v := (nI 7)) dX7_parts_27 (by decide) ?_
          refine g_icmp_le (pc := 29) (tgt := 35) dX7_parts_29 (by decide) (fun c_29 => ?_) (fun c_29 => ?_)
          · have c29 := nI_le' (by omega) (by omega) c_29
            have hyes : partsA (nI a) so (nI m) := ⟨by omega, c17, by omega⟩
            obtain ⟨hz1, hz2, h40⟩ := hz.1 a c8
            refine g_aload_n (pc := 35) dX7_parts_35 rfl ?_
            refine a_getr (pc := 36) (q := 49) fl_X7_57 dX7_parts_36 (by first | rfl | assumption) rfl rfl ?_
            refine g_iload_n (pc := 39) dX7_parts_39 rfl ?_
            refine a_cv1i (pc := 40) (c_X4_isMissing μ zs zn hz.1 a c8) m_X4_isMissing ml_X7_159 (by omega) (by first | rfl | assumption) rfl rfl (Nat.le_of_ble_eq_true rfl) dX7_parts_40 (fun x_40 μ_40 h_40 => ?_)
            obtain ⟨hm_40, hd_40⟩ := h_40
            have hm_40 := hm_40.symm
            subst hm_40
            refine g_if_eq (pc := 43) (tgt := 49) dX7_parts_43 (by decide) (fun c_43 => ?_) (fun c_43 => ?_)
            · have c43 := (hd_40.resolve_left (fun q => absurd (q.1.symm.trans c_43) (by decide))).2
              refine g_aload_n (pc := 49) dX7_parts_49 rfl ?_
              refine a_getr (pc := 50) (q := 49) fl_X7_57 dX7_parts_50 (by first | rfl | assumption) rfl rfl ?_
              refine a_getr (pc := 53) (q := 50) fl_X7_236 dX7_parts_53 (by first | rfl | assumption) rfl rfl ?_
              refine g_iload_n (pc := 56) dX7_parts_56 rfl ?_
              refine v_iald (pc := 57) dX7_parts_57 (by first | rfl | assumption) rfl (by omega) hz1 ?_
              refine g_iload_n (pc := 58) dX7_parts_58 rfl ?_
              refine g_icmp_eq (pc := 59) (tgt := 65) dX7_parts_59 (by decide) (fun c_59 => ?_) (fun c_59 => ?_)
              · refine g_iconst (pc := 65) (v := (nI 0)) dX7_parts_65 (by decide) ?_
                refine a_ist5 (pc := 66) dX7_parts_66 (by decide) rfl ?_
                refine g_iconst (pc := 68) (v := (nI 0)) dX7_parts_68 (by decide) ?_
                refine a_ist6 (pc := 69) dX7_parts_69 (by decide) rfl ?_
                have lp71 : ∀ (zz : Nat) (i : Nat) (hi : i ≤ m) (ν : Mem) (hν : SV ν 1 (paS v (zi a) (nx x) i).1 ∧ (∀ c, c = 0 ∨ 5 < c → ν c = μ c) ∧ ∀ j, j < i → nx x + 2 * j + 1 < zn a) (l7 : Option Value), m - i = zz → WG eI yX7_parts.cls cX7_parts 8 (some .int) false (fun _ _ => True) 2 (mpost (fun r μ1 => (¬ partsA (nI a) so (nI m) ∧ r = -2 ∧ μ1 = μ) ∨ (partsA (nI a) so (nI m) ∧ zs (a) = -1 ∧ r = -11 ∧ μ1 = μ) ∨ (partsA (nI a) so (nI m) ∧ ¬ zs (a) = -1 ∧ ¬ zs (a) = so ∧ r = -13 ∧ μ1 = μ) ∨ (partsA (nI a) so (nI m) ∧ ¬ zs (a) = -1 ∧ zs (a) = so ∧ ∃ i, i ≤ m ∧ SV μ1 1 (paS v (zi (a)) (nx x) i).1 ∧ (∀ c, c = 0 ∨ 5 < c → μ1 c = μ c) ∧ (∀ j, j < i → nx x + 2 * j + 1 < zn (a)) ∧ ((i = m ∧ r = nI (paS v (zi (a)) (nx x) i).2) ∨ (i < m ∧ ¬ nx x + 2 * i + 1 < zn (a) ∧ r = -12))))) 0 0 71 [some (.ref 0), some (.int (nI a)), some (.int so), some (.int x), some (.int (nI m)), some (.int (nI (paS v (zi a) (nx x) i).2)), some (.int (nI i)), l7] [] (mk ν) := by
                  intro zz
                  induction zz using Nat.strongRecOn with
                  | ind zz ih =>
                    intro i hi ν hν l7 hzz
                    obtain ⟨d1, f1, g1⟩ := hν
                    have hzν : ZA ν zs zn zi := hz.moved (fun c h1 h2 => f1 c (by omega))
                    have hrec : paS v (zi a) (nx x) (i + 1) = if partOK (zi a (nx x + 2 * i)) (zi a (nx x + 2 * i + 1)) ∧ (paS v (zi a) (nx x) i).1 0 3 < 7 then (addV (paS v (zi a) (nx x) i).1 (nx (zi a (nx x + 2 * i))) (nx (zi a (nx x + 2 * i + 1))), (paS v (zi a) (nx x) i).2 + 1) else paS v (zi a) (nx x) i := rfl
                    refine g_iload (pc := 71) dX7_parts_71 rfl ?_
                    refine g_iload (pc := 73) dX7_parts_73 rfl ?_
                    refine g_icmp_ge (pc := 75) (tgt := 159) dX7_parts_75 (by decide) (fun c_75 => ?_) (fun c_75 => ?_)
                    · have c75 := nI_le' (by omega) (by omega) c_75
                      obtain rfl : i = m := by omega
                      refine g_iload (pc := 159) dX7_parts_159 rfl ?_
                      refine g_ireturn (pc := 161) dX7_parts_161 rfl (by first | rfl | decide) rfl ⟨_, rfl, ?_⟩
                      exact Or.inr (Or.inr (Or.inr ⟨hyes, c43, c_59, _, Nat.le_refl _, d1, f1, g1, Or.inl ⟨rfl, rfl⟩⟩))
                    · have c75 := nI_gt' (by omega) (by omega) c_75
                      obtain ⟨y, ey, hy1, hy2⟩ := at_lem (x := x) (i := i) h40 (by omega) (by
                        by_cases h0 : i = 0
                        · exact Or.inl h0
                        · exact Or.inr (g1 (i - 1) (by omega)))
                      refine g_iload_n (pc := 78) dX7_parts_78 rfl ?_
                      refine g_iconst (pc := 79) (v := (nI 2)) dX7_parts_79 (by decide) ?_
                      refine g_iload (pc := 80) dX7_parts_80 rfl ?_
                      refine v_imul (pc := 82) dX7_parts_82 rfl ?_
                      refine v_iadd (pc := 83) dX7_parts_83 ey ?_
                      refine a_ist7 (pc := 84) dX7_parts_84 (by decide) rfl ?_
                      refine g_aload_n (pc := 86) dX7_parts_86 rfl ?_
                      refine a_getr (pc := 87) (q := 49) fl_X7_57 dX7_parts_87 (by first | rfl | assumption) rfl rfl ?_
                      refine g_iload_n (pc := 90) dX7_parts_90 rfl ?_
                      refine g_iload (pc := 91) dX7_parts_91 rfl ?_
                      refine a_cv2i (pc := 93) (c_X4_hasItem ν zs zn hzν.1 a c8 y) m_X4_hasItem ml_X7_239 (by omega) (by first | rfl | assumption) rfl rfl (Nat.le_of_ble_eq_true rfl) dX7_parts_93 (fun x_93 μ_93 h_93 => ?_)
                      obtain ⟨hm_93, hd_93⟩ := h_93
                      have hm_93 := hm_93.symm
                      subst hm_93
                      rw [has_nx (by omega)] at hd_93
                      refine g_if_eq (pc := 96) (tgt := 114) dX7_parts_96 (by decide) (fun c_96 => ?_) (fun c_96 => ?_)
                      · have c96 := (hd_93.resolve_left (fun q => absurd (q.1.symm.trans c_96) (by decide))).2
                        have hout : ¬ nx x + 2 * i + 1 < zn a := by omega
                        refine g_bipush (pc := 114) (v := (-12)) dX7_parts_114 (by decide) ?_
                        refine g_ireturn (pc := 116) dX7_parts_116 rfl (by first | rfl | decide) rfl ⟨_, rfl, ?_⟩
                        exact Or.inr (Or.inr (Or.inr ⟨hyes, c43, c_59, i, hi, d1, f1, g1, Or.inr ⟨c75, hout, rfl⟩⟩))
                      · have c96 := (hd_93.resolve_right (fun q => c_96 q.1)).2
                        have hy3 := hy2 c96
                        rw [hy1] at c96
                        subst hy3
                        clear hy1 hy2 hd_93
                        refine g_aload_n (pc := 99) dX7_parts_99 rfl ?_
                        refine a_getr (pc := 100) (q := 49) fl_X7_57 dX7_parts_100 (by first | rfl | assumption) rfl rfl ?_
                        refine g_iload_n (pc := 103) dX7_parts_103 rfl ?_
                        refine g_iload (pc := 104) dX7_parts_104 rfl ?_
                        refine g_iconst (pc := 106) (v := (nI 1)) dX7_parts_106 (by decide) ?_
                        refine v_iadd (pc := 107) dX7_parts_107 (nI_succ _).symm ?_
                        refine a_cv2i (pc := 108) (c_X4_hasItem ν zs zn hzν.1 a c8 (nI (nx x + 2 * i + 1))) m_X4_hasItem ml_X7_239 (by omega) (by first | rfl | assumption) rfl rfl (Nat.le_of_ble_eq_true rfl) dX7_parts_108 (fun x_108 μ_108 h_108 => ?_)
                        obtain ⟨hm_108, hd_108⟩ := h_108
                        have hm_108 := hm_108.symm
                        subst hm_108
                        rw [has_nx (by omega)] at hd_108
                        rw [nx_nI (by omega)] at hd_108
                        refine g_if_ne (pc := 111) (tgt := 117) dX7_parts_111 (by decide) (fun c_111 => ?_) (fun c_111 => ?_)
                        · have c111 := (hd_108.resolve_right (fun q => c_111 q.1)).2
                          have hsh := shS a c8
                          have g9 : ∀ j, j < i + 1 → nx x + 2 * j + 1 < zn a := fun j hj => by
                            rcases Nat.lt_or_ge j i with h | h
                            · exact g1 j h
                            · obtain rfl : j = i := by omega
                              exact c111
                          refine g_aload_n (pc := 117) dX7_parts_117 rfl ?_
                          refine g_aload_n (pc := 118) dX7_parts_118 rfl ?_
                          refine a_getr (pc := 119) (q := 49) fl_X7_57 dX7_parts_119 (by first | rfl | assumption) rfl rfl ?_
                          refine a_getr (pc := 122) (q := 52) fl_X7_211 dX7_parts_122 (by first | rfl | assumption) rfl rfl ?_
                          refine g_iload_n (pc := 125) dX7_parts_125 rfl ?_
                          refine v_aald (pc := 126) dX7_parts_126 (by first | rfl | assumption) rfl (by omega) (show 52 + 1 + a = 53 + a by omega) ?_
                          refine g_iload (pc := 127) dX7_parts_127 rfl ?_
                          refine v_iald (pc := 129) dX7_parts_129 (by first | rfl | assumption) rfl (by omega) (hzν.2 a c8 _ c96) ?_
                          refine g_aload_n (pc := 130) dX7_parts_130 rfl ?_
                          refine a_getr (pc := 131) (q := 49) fl_X7_57 dX7_parts_131 (by first | rfl | assumption) rfl rfl ?_
                          refine a_getr (pc := 134) (q := 52) fl_X7_211 dX7_parts_134 (by first | rfl | assumption) rfl rfl ?_
                          refine g_iload_n (pc := 137) dX7_parts_137 rfl ?_
                          refine v_aald (pc := 138) dX7_parts_138 (by first | rfl | assumption) rfl (by omega) (show 52 + 1 + a = 53 + a by omega) ?_
                          refine g_iload (pc := 139) dX7_parts_139 rfl ?_
                          refine g_iconst (pc := 141) (v := (nI 1)) dX7_parts_141 (by decide) ?_
                          refine v_iadd (pc := 142) dX7_parts_142 (nI_succ _).symm ?_
                          refine v_iald (pc := 143) dX7_parts_143 (by first | rfl | assumption) rfl (by omega) (hzν.2 a c8 _ c111) ?_
                          refine a_cv2i (pc := 144) (c_X7_part _ ν d1 (zi a (nx x + 2 * i)) (zi a (nx x + 2 * i + 1))) m_X7_part ml_X7_247 (by omega) (by first | rfl | assumption) rfl rfl (Nat.le_of_ble_eq_true rfl) dX7_parts_144 (fun x_144 μ_144 h_144 => ?_)
                          have hd := (show _ ∨ _ from h_144)
                          have hn7 := d1.2.2.2.1.2
                          refine g_if_lt (pc := 147) (tgt := 153) dX7_parts_147 (by decide) (fun c_147 => ?_) (fun c_147 => ?_)
                          · obtain ⟨hk, hm⟩ : (¬ (partOK (zi a (nx x + 2 * i)) (zi a (nx x + 2 * i + 1)) ∧ (paS v (zi a) (nx x) i).1 0 3 < 7)) ∧ μ_144 = ν := by
                              rcases hd with h | h | h
                              · exact ⟨fun g => h.1 g.1, h.2.2⟩
                              · exact ⟨fun g => by
                                  have := g.2
                                  omega, h.2.2.2⟩
                              · rw [h.2.2.1] at c_147
                                exact absurd c_147 (nI_pos (by omega))
                            rw [if_neg hk] at hrec
                            have d9 : SV μ_144 1 (paS v (zi a) (nx x) (i + 1)).1 := by
                              rw [hrec, hm]
                              exact d1
                            have f9 : ∀ c, c = 0 ∨ 5 < c → μ_144 c = μ c := by
                              rw [hm]
                              exact f1
                            refine a_iinc6 (pc := 153) dX7_parts_153 (inc1 i) (by decide) rfl ?_
                            refine g_goto (pc := 156) (tgt := 71) dX7_parts_156 (by decide) ?_
                            have hfin := ih (m - (i + 1)) (by omega) (i + 1) (by omega) μ_144 ⟨d9, f9, g9⟩ (some (.int (nI (nx x + 2 * i)))) rfl
                            rw [hrec] at hfin
                            exact hfin
                          · obtain ⟨hk, d8, f8⟩ : (partOK (zi a (nx x + 2 * i)) (zi a (nx x + 2 * i + 1)) ∧ (paS v (zi a) (nx x) i).1 0 3 < 7) ∧ SV μ_144 1 (addV (paS v (zi a) (nx x) i).1 (nx (zi a (nx x + 2 * i))) (nx (zi a (nx x + 2 * i + 1)))) ∧ ∀ c, c = 0 ∨ 5 < c → μ_144 c = ν c := by
                              rcases hd with h | h | h
                              · exact absurd (show x_144 < 0 by rw [h.2.1]; decide) c_147
                              · exact absurd (show x_144 < 0 by rw [h.2.2.1]; decide) c_147
                              · exact ⟨⟨h.1, h.2.1⟩, h.2.2.2.1, h.2.2.2.2⟩
                            rw [if_pos hk] at hrec
                            have d9 : SV μ_144 1 (paS v (zi a) (nx x) (i + 1)).1 := by
                              rw [hrec]
                              exact d8
                            have f9 : ∀ c, c = 0 ∨ 5 < c → μ_144 c = μ c := fun c hc => (f8 c hc).trans (f1 c hc)
                            refine a_iinc5 (pc := 150) dX7_parts_150 (inc1 _) (by decide) rfl ?_
                            refine a_iinc6 (pc := 153) dX7_parts_153 (inc1 i) (by decide) rfl ?_
                            refine g_goto (pc := 156) (tgt := 71) dX7_parts_156 (by decide) ?_
                            have hfin := ih (m - (i + 1)) (by omega) (i + 1) (by omega) μ_144 ⟨d9, f9, g9⟩ (some (.int (nI (nx x + 2 * i)))) rfl
                            rw [hrec] at hfin
                            exact hfin
                        · have c111 := (hd_108.resolve_left (fun q => absurd (q.1.symm.trans c_111) (by decide))).2
                          have hout : ¬ nx x + 2 * i + 1 < zn a := c111
                          refine g_bipush (pc := 114) (v := (-12)) dX7_parts_114 (by decide) ?_
                          refine g_ireturn (pc := 116) dX7_parts_116 rfl (by first | rfl | decide) rfl ⟨_, rfl, ?_⟩
                          exact Or.inr (Or.inr (Or.inr ⟨hyes, c43, c_59, i, hi, d1, f1, g1, Or.inr ⟨c75, hout, rfl⟩⟩))
                exact lp71 _ 0 (Nat.zero_le _) _ ⟨hv, fun c hc => rfl, fun j hj => absurd hj (Nat.not_lt_zero j)⟩ _ rfl
              · refine g_bipush (pc := 62) (v := (-13)) dX7_parts_62 (by decide) ?_
                refine g_ireturn (pc := 64) dX7_parts_64 rfl (by first | rfl | decide) rfl ⟨_, rfl, ?_⟩
                exact Or.inr (Or.inr (Or.inl ⟨hyes, c43, c_59, rfl, rfl⟩))
            · have c43 := (hd_40.resolve_right (fun q => c_43 q.1)).2
              refine g_bipush (pc := 46) (v := (-11)) dX7_parts_46 (by decide) ?_
              refine g_ireturn (pc := 48) dX7_parts_48 rfl (by first | rfl | decide) rfl ⟨_, rfl, ?_⟩
              exact Or.inr (Or.inl ⟨hyes, c43, rfl, rfl⟩)
          · have c29 := nI_gt' (by omega) (by omega) c_29
            have hno : ¬ partsA (nI a) so (nI m) := fun h => by
              have h2 := h.2.2
              omega
            refine g_bipush (pc := 32) (v := (-2)) dX7_parts_32 (by decide) ?_
            refine g_ireturn (pc := 34) dX7_parts_34 rfl (by first | rfl | decide) rfl ⟨_, rfl, ?_⟩
            exact Or.inl ⟨hno, rfl, rfl⟩
