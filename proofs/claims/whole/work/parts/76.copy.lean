/-! ===== the model: copy, parts ===== -/
theorem sub_toInt2 {a b : Nat} (ha : a ≤ 1000) (hb : b < 2 ^ 31) : (nI a - nI b).toInt = (a : Int) - b := by
  rw [Int32.toInt_sub, nI_toInt (by omega), nI_toInt hb]
  exact Int.bmod_eq_of_le (by omega) (by omega)
theorem cp_lem {f n a : Nat} (hf : f < 2 ^ 31) (hn : n < 2 ^ 31) (ha : a ≤ 40) : nI a - nI n < nI f ↔ a < f + n := by
  rw [Int32.lt_iff_toInt_lt, sub_toInt2 (by omega) hn, nI_toInt hf]
  omega
/-- behind k steps of a copy, upwards or downwards -/
def cpD (up : Bool) (n k q : Nat) : Prop := q < n ∧ (if up then n ≤ q + k else q < k)
def cpI (μ ν : Mem) (A B n k : Nat) (up : Bool) : Prop := (∀ q, cpD up n k q → ν 71 (B + q) = μ 71 (A + q)) ∧ (∀ x, (∀ q, cpD up n k q → x ≠ B + q) → ν 71 x = μ 71 x) ∧ ∀ c, c ≠ 71 → ν c = μ c
theorem cpI.nil (μ : Mem) (A B n : Nat) (up : Bool) : cpI μ μ A B n 0 up := ⟨fun q hq => by
  obtain ⟨h1, h2⟩ := hq
  split at h2 <;> omega, fun _ _ => rfl, fun _ _ => rfl⟩
theorem cpI.go {μ ν : Mem} {A B n k q : Nat} {up : Bool} (h : cpI μ ν A B n k up) (hk : k < n) (hq : q = if up then n - 1 - k else k) (hov : ∀ r, cpD up n k r → B + r ≠ A + q) : ν 71 (A + q) = μ 71 (A + q) ∧ cpI μ (mset ν 71 (B + q) (μ 71 (A + q))) A B n (k + 1) up := by
  obtain ⟨h1, h2, h3⟩ := h
  have hqn : q < n := by
    rw [hq]
    split <;> omega
  have hnew : ∀ r, cpD up n (k + 1) r ↔ (cpD up n k r ∨ r = q) := fun r => by
    unfold cpD
    rw [hq]
    split <;> omega
  refine ⟨h2 _ (fun r hr => (hov r hr).symm), fun r hr => ?_, fun x hx => ?_, fun c hc => (mset_ne hc).trans (h3 c hc)⟩
  · rcases (hnew r).mp hr with h4 | h4
    · by_cases hrq : r = q
      · rw [hrq, mset_eq]
      · rw [mset_nj (by omega)]
        exact h1 r h4
    · rw [h4, mset_eq]
  · rw [mset_nj (hx q ((hnew q).mpr (Or.inr rfl)))]
    exact h2 x (fun r hr => hx r ((hnew r).mpr (Or.inl hr)))
theorem ZMs.copy {μ ν : Mem} {zs : Nat → Int32} {zn : Nat → Nat} {zi : Nat → Nat → Int32} {s i t j n : Nat} {up : Bool} (h : ZMs μ zs zn zi) (hs : s < 4) (ht : t < 4) (hts : ¬ zs t = -1) (hss : ¬ zs s = -1) (hi : i + n ≤ zn s) (hj : j + n ≤ zn t) (g : cpI μ ν (40 * s + i) (40 * t + j) n n up) : ZMs ν zs zn (cpZ zi s i t j n) := by
  obtain ⟨g1, g2, g3⟩ := g
  have hd : ∀ r, cpD up n n r ↔ r < n := fun r => by
    unfold cpD
    split <;> omega
  obtain ⟨-, -, -, -, s5, s6⟩ := (h s hs).resolve_left (fun q => hss q.2)
  obtain ⟨-, -, -, -, t5, t6⟩ := (h t ht).resolve_left (fun q => hts q.2)
  refine h.items g3 (fun u hu q5 q6 r hr => ?_)
  unfold cpZ
  by_cases hut : u = t
  · subst hut
    rw [updN_eq]
    by_cases hin : j ≤ r ∧ r < j + n
    · rw [if_pos hin]
      have e := g1 (r - j) ((hd _).mpr (by omega))
      rw [show 40 * u + j + (r - j) = 40 * u + r by omega, show 40 * s + i + (r - j) = 40 * s + (i + (r - j)) by omega] at e
      rw [e]
      exact s6 _ (by omega)
    · rw [if_neg hin, g2 _ (fun x hx => by have := (hd x).mp hx; omega)]
      exact q6 r hr
  · rw [updN_ne _ _ hut, g2 _ (fun x hx => by have := (hd x).mp hx; omega)]
    exact q6 r hr
theorem c_X8_copy (zs : Nat → Int32) (zn : Nat → Nat) (zi : Nat → Nat → Int32) (μ : Mem) (hz : ZMs μ zs zn zi) (s i t j n : Int32) : CA eI yX8_copy cX8_copy 9 (some .int) 2 [.ref 57, .int s, .int i, .int t, .int j, .int n] μ (fun r μ1 => (¬ (nx s < 4 ∧ nx t < 4) ∧ r = -2 ∧ μ1 = μ) ∨ ((nx s < 4 ∧ nx t < 4) ∧ (zs (nx s) = -1 ∨ zs (nx t) = -1) ∧ r = -11 ∧ μ1 = μ) ∨ ((nx s < 4 ∧ nx t < 4) ∧ ¬ (zs (nx s) = -1 ∨ zs (nx t) = -1) ∧ ¬ zs (nx s) = zs (nx t) ∧ r = -13 ∧ μ1 = μ) ∨ ((nx s < 4 ∧ nx t < 4) ∧ ¬ (zs (nx s) = -1 ∨ zs (nx t) = -1) ∧ zs (nx s) = zs (nx t) ∧ ¬ (nx i + nx n ≤ zn (nx s) ∧ nx j + nx n ≤ zn (nx t)) ∧ r = -12 ∧ μ1 = μ) ∨ ((nx s < 4 ∧ nx t < 4) ∧ ¬ (zs (nx s) = -1 ∨ zs (nx t) = -1) ∧ zs (nx s) = zs (nx t) ∧ (nx i + nx n ≤ zn (nx s) ∧ nx j + nx n ≤ zn (nx t)) ∧ r = n ∧ ZMs μ1 zs zn (cpZ zi (nx s) (nx i) (nx t) (nx j) (nx n)) ∧ SFm μ μ1)) := by
  refine CT.of false (by decide) (by decide) (L := [some (.ref 57), some (.int s), some (.int i), some (.int t), some (.int j), some (.int n), none, none, none]) rfl (Nat.le_of_ble_eq_true rfl) ?_
  refine g_iload_n (pc := 0) dX8_copy_0 rfl ?_
  refine a_cs1i (pc := 1) (c_X8_isSheet s μ) m_X8_isSheet ml_X8_270 (by omega) (Nat.le_of_ble_eq_true rfl) dX8_copy_1 (fun x_1 μ_1 h_1 => ?_)
  obtain ⟨hm_1, hd_1⟩ := h_1
  have hm_1 := hm_1.symm
  subst hm_1
  refine g_if_eq (pc := 4) (tgt := 14) dX8_copy_4 (by decide) (fun c_4 => ?_) (fun c_4 => ?_)
  · have c4 := (hd_1.resolve_left (fun q => absurd (q.1.symm.trans c_4) (by decide))).2
    have hno : ¬ (nx s < 4 ∧ nx t < 4) := fun h => c4 h.1
    refine g_bipush (pc := 14) (v := (-2)) dX8_copy_14 (by decide) ?_
    refine g_ireturn (pc := 16) dX8_copy_16 rfl (by first | rfl | decide) rfl ⟨_, rfl, ?_⟩
    exact Or.inl ⟨hno, rfl, rfl⟩
  · have c4 := (hd_1.resolve_right (fun q => c_4 q.1)).2
    refine g_iload_n (pc := 7) dX8_copy_7 rfl ?_
    refine a_cs1i (pc := 8) (c_X8_isSheet t μ) m_X8_isSheet ml_X8_270 (by omega) (Nat.le_of_ble_eq_true rfl) dX8_copy_8 (fun x_8 μ_8 h_8 => ?_)
    obtain ⟨hm_8, hd_8⟩ := h_8
    have hm_8 := hm_8.symm
    subst hm_8
    refine g_if_ne (pc := 11) (tgt := 17) dX8_copy_11 (by decide) (fun c_11 => ?_) (fun c_11 => ?_)
    · have c11 := (hd_8.resolve_right (fun q => c_11 q.1)).2
      have hyes : nx s < 4 ∧ nx t < 4 := ⟨c4, c11⟩
      have e_a := nx_lt c4 (by omega)
      generalize j_a : nx s = a at e_a c4 hyes
      subst e_a
      have e_b := nx_lt c11 (by omega)
      generalize j_b : nx t = b at e_b c11 hyes
      subst e_b
      refine g_aload_n (pc := 17) dX8_copy_17 rfl ?_
      refine a_getr (pc := 18) (q := 68) fl_X8_53 dX8_copy_18 (by first | rfl | assumption) rfl rfl ?_
      refine g_iload_n (pc := 21) dX8_copy_21 rfl ?_
      obtain ⟨b22, hb22⟩ : ∃ bb, μ 68 a = bb := ⟨_, rfl⟩
      refine v_zald (pc := 22) dX8_copy_22 (by first | rfl | assumption) rfl (by omega) hb22 ?_
      refine g_if_eq (pc := 23) (tgt := 35) dX8_copy_23 (by decide) (fun c_23 => ?_) (fun c_23 => ?_)
      · have hmis : zs a = -1 ∨ zs b = -1 := Or.inl ((hz a c4).resolve_right (fun q => by rw [← hb22, q.1] at c_23; exact absurd c_23 (by decide))).2
        refine g_bipush (pc := 35) (v := (-11)) dX8_copy_35 (by decide) ?_
        refine g_ireturn (pc := 37) dX8_copy_37 rfl (by first | rfl | decide) rfl ⟨_, rfl, ?_⟩
        exact Or.inr (Or.inl ⟨hyes, hmis, rfl, rfl⟩)
      · obtain ⟨-, z1, z2, z3, z4, z5⟩ := (hz a c4).resolve_left (fun q => c_23 (by rw [← hb22, q.1]; rfl))
        refine g_aload_n (pc := 26) dX8_copy_26 rfl ?_
        refine a_getr (pc := 27) (q := 68) fl_X8_53 dX8_copy_27 (by first | rfl | assumption) rfl rfl ?_
        refine g_iload_n (pc := 30) dX8_copy_30 rfl ?_
        obtain ⟨b31, hb31⟩ : ∃ bb, μ 68 b = bb := ⟨_, rfl⟩
        refine v_zald (pc := 31) dX8_copy_31 (by first | rfl | assumption) rfl (by omega) hb31 ?_
        refine g_if_ne (pc := 32) (tgt := 38) dX8_copy_32 (by decide) (fun c_32 => ?_) (fun c_32 => ?_)
        · obtain ⟨-, y1, y2, y3, y4, y5⟩ := (hz b c11).resolve_left (fun q => c_32 (by rw [← hb31, q.1]; rfl))
          have hmis : ¬ (zs a = -1 ∨ zs b = -1) := fun h => h.elim z1 y1
          refine g_aload_n (pc := 38) dX8_copy_38 rfl ?_
          refine a_getr (pc := 39) (q := 69) fl_X8_57 dX8_copy_39 (by first | rfl | assumption) rfl rfl ?_
          refine g_iload_n (pc := 42) dX8_copy_42 rfl ?_
          refine v_iald (pc := 43) dX8_copy_43 (by first | rfl | assumption) rfl (by omega) z2 ?_
          refine g_aload_n (pc := 44) dX8_copy_44 rfl ?_
          refine a_getr (pc := 45) (q := 69) fl_X8_57 dX8_copy_45 (by first | rfl | assumption) rfl rfl ?_
          refine g_iload_n (pc := 48) dX8_copy_48 rfl ?_
          refine v_iald (pc := 49) dX8_copy_49 (by first | rfl | assumption) rfl (by omega) y2 ?_
          refine g_icmp_eq (pc := 50) (tgt := 56) dX8_copy_50 (by decide) (fun c_50 => ?_) (fun c_50 => ?_)
          · refine g_iload (pc := 56) dX8_copy_56 rfl ?_
            refine g_if_lt (pc := 58) (tgt := 97) dX8_copy_58 (by decide) (fun c_58 => ?_) (fun c_58 => ?_)
            · have hout : ¬ (nx i + nx n ≤ zn a ∧ nx j + nx n ≤ zn b) := fun h => by
                rw [nx_neg c_58] at h
                omega
              refine g_bipush (pc := 97) (v := (-12)) dX8_copy_97 (by decide) ?_
              refine g_ireturn (pc := 99) dX8_copy_99 rfl (by first | rfl | decide) rfl ⟨_, rfl, ?_⟩
              exact Or.inr (Or.inr (Or.inr (Or.inl ⟨hyes, hmis, c_50, hout, rfl, rfl⟩)))
            · obtain ⟨e_m, b_m⟩ := nx_of c_58
              refine g_iload_n (pc := 61) dX8_copy_61 rfl ?_
              refine g_if_lt (pc := 62) (tgt := 97) dX8_copy_62 (by decide) (fun c_62 => ?_) (fun c_62 => ?_)
              · have hout : ¬ (nx i + nx n ≤ zn a ∧ nx j + nx n ≤ zn b) := fun h => by
                  rw [nx_neg c_62] at h
                  omega
                refine g_bipush (pc := 97) (v := (-12)) dX8_copy_97 (by decide) ?_
                refine g_ireturn (pc := 99) dX8_copy_99 rfl (by first | rfl | decide) rfl ⟨_, rfl, ?_⟩
                exact Or.inr (Or.inr (Or.inr (Or.inl ⟨hyes, hmis, c_50, hout, rfl, rfl⟩)))
              · obtain ⟨e_f, b_f⟩ := nx_of c_62
                refine g_iload (pc := 65) dX8_copy_65 rfl ?_
                refine g_if_lt (pc := 67) (tgt := 97) dX8_copy_67 (by decide) (fun c_67 => ?_) (fun c_67 => ?_)
                · have hout : ¬ (nx i + nx n ≤ zn a ∧ nx j + nx n ≤ zn b) := fun h => by
                    rw [nx_neg c_67] at h
                    omega
                  refine g_bipush (pc := 97) (v := (-12)) dX8_copy_97 (by decide) ?_
                  refine g_ireturn (pc := 99) dX8_copy_99 rfl (by first | rfl | decide) rfl ⟨_, rfl, ?_⟩
                  exact Or.inr (Or.inr (Or.inr (Or.inl ⟨hyes, hmis, c_50, hout, rfl, rfl⟩)))
                · obtain ⟨e_g, b_g⟩ := nx_of c_67
                  refine g_iload_n (pc := 70) dX8_copy_70 rfl ?_
                  refine g_aload_n (pc := 71) dX8_copy_71 rfl ?_
                  refine a_getr (pc := 72) (q := 70) fl_X8_60 dX8_copy_72 (by first | rfl | assumption) rfl rfl ?_
                  refine g_iload_n (pc := 75) dX8_copy_75 rfl ?_
                  refine v_iald (pc := 76) dX8_copy_76 (by first | rfl | assumption) rfl (by omega) z3 ?_
                  refine g_iload (pc := 77) dX8_copy_77 rfl ?_
                  refine v_isub (pc := 79) dX8_copy_79 rfl ?_
                  refine g_icmp_gt (pc := 80) (tgt := 97) dX8_copy_80 (by decide) (fun c_80 => ?_) (fun c_80 => ?_)
                  · have c80 : zn a < nx i + nx n := by
                      rw [e_f, e_m] at c_80
                      exact (cp_lem b_f b_m z4).mp c_80
                    have hout : ¬ (nx i + nx n ≤ zn a ∧ nx j + nx n ≤ zn b) := fun h => by omega
                    refine g_bipush (pc := 97) (v := (-12)) dX8_copy_97 (by decide) ?_
                    refine g_ireturn (pc := 99) dX8_copy_99 rfl (by first | rfl | decide) rfl ⟨_, rfl, ?_⟩
                    exact Or.inr (Or.inr (Or.inr (Or.inl ⟨hyes, hmis, c_50, hout, rfl, rfl⟩)))
                  · have c80 : nx i + nx n ≤ zn a := by
                      rw [e_f, e_m] at c_80
                      exact Nat.not_lt.mp (fun q => c_80 ((cp_lem b_f b_m z4).mpr q))
                    refine g_iload (pc := 83) dX8_copy_83 rfl ?_
                    refine g_aload_n (pc := 85) dX8_copy_85 rfl ?_
                    refine a_getr (pc := 86) (q := 70) fl_X8_60 dX8_copy_86 (by first | rfl | assumption) rfl rfl ?_
                    refine g_iload_n (pc := 89) dX8_copy_89 rfl ?_
                    refine v_iald (pc := 90) dX8_copy_90 (by first | rfl | assumption) rfl (by omega) y3 ?_
                    refine g_iload (pc := 91) dX8_copy_91 rfl ?_
                    refine v_isub (pc := 93) dX8_copy_93 rfl ?_
                    refine g_icmp_le (pc := 94) (tgt := 100) dX8_copy_94 (by decide) (fun c_94 => ?_) (fun c_94 => ?_)
                    · have c94 : nx j + nx n ≤ zn b := by
                        rw [e_g, e_m] at c_94
                        exact Nat.not_lt.mp (fun q => absurd c_94 (Int32.not_le.mpr ((cp_lem b_g b_m y4).mpr q)))
                      generalize j_f : nx i = f at e_f b_f c80
                      generalize j_g : nx j = g at e_g b_g c94
                      generalize j_m : nx n = m at e_m b_m c80 c94
                      subst e_f
                      subst e_g
                      subst e_m
                      refine g_iload_n (pc := 100) dX8_copy_100 rfl ?_
                      refine g_iload_n (pc := 101) dX8_copy_101 rfl ?_
                      refine g_icmp_ne (pc := 102) (tgt := 115) dX8_copy_102 (by decide) (fun c_102 => ?_) (fun c_102 => ?_)
                      · have c102 : ¬ a = b := fun h => c_102 (by rw [h])
                        refine g_iconst (pc := 115) (v := (nI 0)) dX8_copy_115 (by decide) ?_
                        refine a_ist6 (pc := 116) dX8_copy_116 (by decide) rfl ?_
                        refine g_iconst (pc := 118) (v := (nI 0)) dX8_copy_118 (by decide) ?_
                        refine a_ist7 (pc := 119) dX8_copy_119 (by decide) rfl ?_
                        have lp121 : ∀ (zz : Nat) (k : Nat) (hk : k ≤ m) (ν : Mem) (hν : cpI μ ν (40 * a + f) (40 * b + g) m k false) (l8 : Option Value), m - k = zz → WG eI yX8_copy.cls cX8_copy 9 (some .int) false (fun _ _ => True) 2 (mpost (fun r μ1 => (¬ (a < 4 ∧ b < 4) ∧ r = -2 ∧ μ1 = μ) ∨ ((a < 4 ∧ b < 4) ∧ (zs a = -1 ∨ zs b = -1) ∧ r = -11 ∧ μ1 = μ) ∨ ((a < 4 ∧ b < 4) ∧ ¬ (zs a = -1 ∨ zs b = -1) ∧ ¬ zs a = zs b ∧ r = -13 ∧ μ1 = μ) ∨ ((a < 4 ∧ b < 4) ∧ ¬ (zs a = -1 ∨ zs b = -1) ∧ zs a = zs b ∧ ¬ (f + m ≤ zn a ∧ g + m ≤ zn b) ∧ r = -12 ∧ μ1 = μ) ∨ ((a < 4 ∧ b < 4) ∧ ¬ (zs a = -1 ∨ zs b = -1) ∧ zs a = zs b ∧ (f + m ≤ zn a ∧ g + m ≤ zn b) ∧ r = nI m ∧ ZMs μ1 zs zn (cpZ zi a f b g m) ∧ SFm μ μ1))) 0 0 121 [some (.ref 57), some (.int (nI a)), some (.int (nI f)), some (.int (nI b)), some (.int (nI g)), some (.int (nI m)), some (.int (nI 0)), some (.int (nI k)), l8] [] (mk ν) := by
                          intro zz
                          induction zz using Nat.strongRecOn with
                          | ind zz ih =>
                            intro k hk ν hν l8 hzz
                            skip
                            refine g_iload (pc := 121) dX8_copy_121 rfl ?_
                            refine g_iload (pc := 123) dX8_copy_123 rfl ?_
                            refine g_icmp_ge (pc := 125) (tgt := 182) dX8_copy_125 (by decide) (fun c_125 => ?_) (fun c_125 => ?_)
                            · have c125 := nI_le' (by omega) (by omega) c_125
                              obtain rfl : k = m := by omega
                              refine g_iload (pc := 182) dX8_copy_182 rfl ?_
                              refine g_ireturn (pc := 184) dX8_copy_184 rfl (by first | rfl | decide) rfl ⟨_, rfl, ?_⟩
                              exact Or.inr (Or.inr (Or.inr (Or.inr ⟨hyes, hmis, c_50, ⟨c80, c94⟩, rfl, hz.copy c4 c11 y1 z1 c80 c94 hν, fun k hk => hν.2.2 k (by omega)⟩)))
                            · have c125 := nI_gt' (by omega) (by omega) c_125
                              have hgo := hν.go (q := k) c125 rfl (fun r hr => by
                                have h1 := hr.1
                                have h2 := hr.2
                                simp at h2
                                omega)
                              refine g_iload (pc := 128) dX8_copy_128 rfl ?_
                              refine g_if_eq (pc := 130) (tgt := 143) dX8_copy_130 (by decide) (fun c_130 => ?_) (fun c_130 => absurd rfl c_130)
                              refine g_iload (pc := 143) dX8_copy_143 rfl ?_
                              refine a_ist8 (pc := 145) dX8_copy_145 (by decide) rfl ?_
                              refine g_aload_n (pc := 147) dX8_copy_147 rfl ?_
                              refine a_getr (pc := 148) (q := 71) fl_X8_63 dX8_copy_148 (by first | rfl | assumption) rfl rfl ?_
                              refine g_bipush (pc := 151) (v := (nI 40)) dX8_copy_151 (by decide) ?_
                              refine g_iload_n (pc := 153) dX8_copy_153 rfl ?_
                              refine v_imul (pc := 154) dX8_copy_154 (pk_mul 40 b) ?_
                              refine g_iload (pc := 155) dX8_copy_155 rfl ?_
                              refine v_iadd (pc := 157) dX8_copy_157 (nI_add _ g) ?_
                              refine g_iload (pc := 158) dX8_copy_158 rfl ?_
                              refine v_iadd (pc := 160) dX8_copy_160 (nI_add _ _) ?_
                              refine g_aload_n (pc := 161) dX8_copy_161 rfl ?_
                              refine a_getr (pc := 162) (q := 71) fl_X8_63 dX8_copy_162 (by first | rfl | assumption) rfl rfl ?_
                              refine g_bipush (pc := 165) (v := (nI 40)) dX8_copy_165 (by decide) ?_
                              refine g_iload_n (pc := 167) dX8_copy_167 rfl ?_
                              refine v_imul (pc := 168) dX8_copy_168 (pk_mul 40 a) ?_
                              refine g_iload_n (pc := 169) dX8_copy_169 rfl ?_
                              refine v_iadd (pc := 170) dX8_copy_170 (nI_add _ f) ?_
                              refine g_iload (pc := 171) dX8_copy_171 rfl ?_
                              refine v_iadd (pc := 173) dX8_copy_173 (nI_add _ _) ?_
                              refine v_iald (pc := 174) dX8_copy_174 (by first | rfl | assumption) rfl (by omega) hgo.1 ?_
                              refine a_iast (pc := 175) dX8_copy_175 (by first | rfl | assumption) rfl (by omega) ?_
                              refine a_iinc7 (pc := 176) dX8_copy_176 (inc1 k) (by decide) rfl ?_
                              refine g_goto (pc := 179) (tgt := 121) dX8_copy_179 (by decide) ?_
                              exact ih (m - (k + 1)) (by omega) (k + 1) (by omega) _ hgo.2 _ rfl
                        exact lp121 _ 0 (Nat.zero_le _) μ (cpI.nil _ _ _ _ _) _ rfl
                      · have c102 : a = b := nI_eq' (by omega) (by omega) c_102
                        refine g_iload_n (pc := 105) dX8_copy_105 rfl ?_
                        refine g_iload (pc := 106) dX8_copy_106 rfl ?_
                        refine g_icmp_ge (pc := 108) (tgt := 115) dX8_copy_108 (by decide) (fun c_108 => ?_) (fun c_108 => ?_)
                        · have c108 := nI_le' (by omega) (by omega) c_108
                          refine g_iconst (pc := 115) (v := (nI 0)) dX8_copy_115 (by decide) ?_
                          refine a_ist6 (pc := 116) dX8_copy_116 (by decide) rfl ?_
                          refine g_iconst (pc := 118) (v := (nI 0)) dX8_copy_118 (by decide) ?_
                          refine a_ist7 (pc := 119) dX8_copy_119 (by decide) rfl ?_
                          have lp121 : ∀ (zz : Nat) (k : Nat) (hk : k ≤ m) (ν : Mem) (hν : cpI μ ν (40 * a + f) (40 * b + g) m k false) (l8 : Option Value), m - k = zz → WG eI yX8_copy.cls cX8_copy 9 (some .int) false (fun _ _ => True) 2 (mpost (fun r μ1 => (¬ (a < 4 ∧ b < 4) ∧ r = -2 ∧ μ1 = μ) ∨ ((a < 4 ∧ b < 4) ∧ (zs a = -1 ∨ zs b = -1) ∧ r = -11 ∧ μ1 = μ) ∨ ((a < 4 ∧ b < 4) ∧ ¬ (zs a = -1 ∨ zs b = -1) ∧ ¬ zs a = zs b ∧ r = -13 ∧ μ1 = μ) ∨ ((a < 4 ∧ b < 4) ∧ ¬ (zs a = -1 ∨ zs b = -1) ∧ zs a = zs b ∧ ¬ (f + m ≤ zn a ∧ g + m ≤ zn b) ∧ r = -12 ∧ μ1 = μ) ∨ ((a < 4 ∧ b < 4) ∧ ¬ (zs a = -1 ∨ zs b = -1) ∧ zs a = zs b ∧ (f + m ≤ zn a ∧ g + m ≤ zn b) ∧ r = nI m ∧ ZMs μ1 zs zn (cpZ zi a f b g m) ∧ SFm μ μ1))) 0 0 121 [some (.ref 57), some (.int (nI a)), some (.int (nI f)), some (.int (nI b)), some (.int (nI g)), some (.int (nI m)), some (.int (nI 0)), some (.int (nI k)), l8] [] (mk ν) := by
                            intro zz
                            induction zz using Nat.strongRecOn with
                            | ind zz ih =>
                              intro k hk ν hν l8 hzz
                              skip
                              refine g_iload (pc := 121) dX8_copy_121 rfl ?_
                              refine g_iload (pc := 123) dX8_copy_123 rfl ?_
                              refine g_icmp_ge (pc := 125) (tgt := 182) dX8_copy_125 (by decide) (fun c_125 => ?_) (fun c_125 => ?_)
                              · have c125 := nI_le' (by omega) (by omega) c_125
                                obtain rfl : k = m := by omega
                                refine g_iload (pc := 182) dX8_copy_182 rfl ?_
                                refine g_ireturn (pc := 184) dX8_copy_184 rfl (by first | rfl | decide) rfl ⟨_, rfl, ?_⟩
                                exact Or.inr (Or.inr (Or.inr (Or.inr ⟨hyes, hmis, c_50, ⟨c80, c94⟩, rfl, hz.copy c4 c11 y1 z1 c80 c94 hν, fun k hk => hν.2.2 k (by omega)⟩)))
                              · have c125 := nI_gt' (by omega) (by omega) c_125
                                have hgo := hν.go (q := k) c125 rfl (fun r hr => by
                                  have h1 := hr.1
                                  have h2 := hr.2
                                  simp at h2
                                  omega)
                                refine g_iload (pc := 128) dX8_copy_128 rfl ?_
                                refine g_if_eq (pc := 130) (tgt := 143) dX8_copy_130 (by decide) (fun c_130 => ?_) (fun c_130 => absurd rfl c_130)
                                refine g_iload (pc := 143) dX8_copy_143 rfl ?_
                                refine a_ist8 (pc := 145) dX8_copy_145 (by decide) rfl ?_
                                refine g_aload_n (pc := 147) dX8_copy_147 rfl ?_
                                refine a_getr (pc := 148) (q := 71) fl_X8_63 dX8_copy_148 (by first | rfl | assumption) rfl rfl ?_
                                refine g_bipush (pc := 151) (v := (nI 40)) dX8_copy_151 (by decide) ?_
                                refine g_iload_n (pc := 153) dX8_copy_153 rfl ?_
                                refine v_imul (pc := 154) dX8_copy_154 (pk_mul 40 b) ?_
                                refine g_iload (pc := 155) dX8_copy_155 rfl ?_
                                refine v_iadd (pc := 157) dX8_copy_157 (nI_add _ g) ?_
                                refine g_iload (pc := 158) dX8_copy_158 rfl ?_
                                refine v_iadd (pc := 160) dX8_copy_160 (nI_add _ _) ?_
                                refine g_aload_n (pc := 161) dX8_copy_161 rfl ?_
                                refine a_getr (pc := 162) (q := 71) fl_X8_63 dX8_copy_162 (by first | rfl | assumption) rfl rfl ?_
                                refine g_bipush (pc := 165) (v := (nI 40)) dX8_copy_165 (by decide) ?_
                                refine g_iload_n (pc := 167) dX8_copy_167 rfl ?_
                                refine v_imul (pc := 168) dX8_copy_168 (pk_mul 40 a) ?_
                                refine g_iload_n (pc := 169) dX8_copy_169 rfl ?_
                                refine v_iadd (pc := 170) dX8_copy_170 (nI_add _ f) ?_
                                refine g_iload (pc := 171) dX8_copy_171 rfl ?_
                                refine v_iadd (pc := 173) dX8_copy_173 (nI_add _ _) ?_
                                refine v_iald (pc := 174) dX8_copy_174 (by first | rfl | assumption) rfl (by omega) hgo.1 ?_
                                refine a_iast (pc := 175) dX8_copy_175 (by first | rfl | assumption) rfl (by omega) ?_
                                refine a_iinc7 (pc := 176) dX8_copy_176 (inc1 k) (by decide) rfl ?_
                                refine g_goto (pc := 179) (tgt := 121) dX8_copy_179 (by decide) ?_
                                exact ih (m - (k + 1)) (by omega) (k + 1) (by omega) _ hgo.2 _ rfl
                          exact lp121 _ 0 (Nat.zero_le _) μ (cpI.nil _ _ _ _ _) _ rfl
                        · have c108 := nI_gt' (by omega) (by omega) c_108
                          refine g_iconst (pc := 111) (v := (nI 1)) dX8_copy_111 (by decide) ?_
                          refine g_goto (pc := 112) (tgt := 116) dX8_copy_112 (by decide) ?_
                          refine a_ist6 (pc := 116) dX8_copy_116 (by decide) rfl ?_
                          refine g_iconst (pc := 118) (v := (nI 0)) dX8_copy_118 (by decide) ?_
                          refine a_ist7 (pc := 119) dX8_copy_119 (by decide) rfl ?_
                          have lp121 : ∀ (zz : Nat) (k : Nat) (hk : k ≤ m) (ν : Mem) (hν : cpI μ ν (40 * a + f) (40 * b + g) m k true) (l8 : Option Value), m - k = zz → WG eI yX8_copy.cls cX8_copy 9 (some .int) false (fun _ _ => True) 2 (mpost (fun r μ1 => (¬ (a < 4 ∧ b < 4) ∧ r = -2 ∧ μ1 = μ) ∨ ((a < 4 ∧ b < 4) ∧ (zs a = -1 ∨ zs b = -1) ∧ r = -11 ∧ μ1 = μ) ∨ ((a < 4 ∧ b < 4) ∧ ¬ (zs a = -1 ∨ zs b = -1) ∧ ¬ zs a = zs b ∧ r = -13 ∧ μ1 = μ) ∨ ((a < 4 ∧ b < 4) ∧ ¬ (zs a = -1 ∨ zs b = -1) ∧ zs a = zs b ∧ ¬ (f + m ≤ zn a ∧ g + m ≤ zn b) ∧ r = -12 ∧ μ1 = μ) ∨ ((a < 4 ∧ b < 4) ∧ ¬ (zs a = -1 ∨ zs b = -1) ∧ zs a = zs b ∧ (f + m ≤ zn a ∧ g + m ≤ zn b) ∧ r = nI m ∧ ZMs μ1 zs zn (cpZ zi a f b g m) ∧ SFm μ μ1))) 0 0 121 [some (.ref 57), some (.int (nI a)), some (.int (nI f)), some (.int (nI b)), some (.int (nI g)), some (.int (nI m)), some (.int (nI 1)), some (.int (nI k)), l8] [] (mk ν) := by
                            intro zz
                            induction zz using Nat.strongRecOn with
                            | ind zz ih =>
                              intro k hk ν hν l8 hzz
                              skip
                              refine g_iload (pc := 121) dX8_copy_121 rfl ?_
                              refine g_iload (pc := 123) dX8_copy_123 rfl ?_
                              refine g_icmp_ge (pc := 125) (tgt := 182) dX8_copy_125 (by decide) (fun c_125 => ?_) (fun c_125 => ?_)
                              · have c125 := nI_le' (by omega) (by omega) c_125
                                obtain rfl : k = m := by omega
                                refine g_iload (pc := 182) dX8_copy_182 rfl ?_
                                refine g_ireturn (pc := 184) dX8_copy_184 rfl (by first | rfl | decide) rfl ⟨_, rfl, ?_⟩
                                exact Or.inr (Or.inr (Or.inr (Or.inr ⟨hyes, hmis, c_50, ⟨c80, c94⟩, rfl, hz.copy c4 c11 y1 z1 c80 c94 hν, fun k hk => hν.2.2 k (by omega)⟩)))
                              · have c125 := nI_gt' (by omega) (by omega) c_125
                                have hgo := hν.go (q := m - 1 - k) c125 rfl (fun r hr => by
                                  have h1 := hr.1
                                  have h2 := hr.2
                                  simp at h2
                                  omega)
                                refine g_iload (pc := 128) dX8_copy_128 rfl ?_
                                refine g_if_eq (pc := 130) (tgt := 143) dX8_copy_130 (by decide) (fun c_130 => absurd c_130 (by decide)) (fun c_130 => ?_)
                                refine g_iload (pc := 133) dX8_copy_133 rfl ?_
                                refine g_iconst (pc := 135) (v := (nI 1)) dX8_copy_135 (by decide) ?_
                                refine v_isub (pc := 136) dX8_copy_136 (pk_sub (by omega)) ?_
                                refine g_iload (pc := 137) dX8_copy_137 rfl ?_
                                refine v_isub (pc := 139) dX8_copy_139 (pk_sub (by omega)) ?_
                                refine g_goto (pc := 140) (tgt := 145) dX8_copy_140 (by decide) ?_
                                refine a_ist8 (pc := 145) dX8_copy_145 (by decide) rfl ?_
                                refine g_aload_n (pc := 147) dX8_copy_147 rfl ?_
                                refine a_getr (pc := 148) (q := 71) fl_X8_63 dX8_copy_148 (by first | rfl | assumption) rfl rfl ?_
                                refine g_bipush (pc := 151) (v := (nI 40)) dX8_copy_151 (by decide) ?_
                                refine g_iload_n (pc := 153) dX8_copy_153 rfl ?_
                                refine v_imul (pc := 154) dX8_copy_154 (pk_mul 40 b) ?_
                                refine g_iload (pc := 155) dX8_copy_155 rfl ?_
                                refine v_iadd (pc := 157) dX8_copy_157 (nI_add _ g) ?_
                                refine g_iload (pc := 158) dX8_copy_158 rfl ?_
                                refine v_iadd (pc := 160) dX8_copy_160 (nI_add _ _) ?_
                                refine g_aload_n (pc := 161) dX8_copy_161 rfl ?_
                                refine a_getr (pc := 162) (q := 71) fl_X8_63 dX8_copy_162 (by first | rfl | assumption) rfl rfl ?_
                                refine g_bipush (pc := 165) (v := (nI 40)) dX8_copy_165 (by decide) ?_
                                refine g_iload_n (pc := 167) dX8_copy_167 rfl ?_
                                refine v_imul (pc := 168) dX8_copy_168 (pk_mul 40 a) ?_
                                refine g_iload_n (pc := 169) dX8_copy_169 rfl ?_
                                refine v_iadd (pc := 170) dX8_copy_170 (nI_add _ f) ?_
                                refine g_iload (pc := 171) dX8_copy_171 rfl ?_
                                refine v_iadd (pc := 173) dX8_copy_173 (nI_add _ _) ?_
                                refine v_iald (pc := 174) dX8_copy_174 (by first | rfl | assumption) rfl (by omega) hgo.1 ?_
                                refine a_iast (pc := 175) dX8_copy_175 (by first | rfl | assumption) rfl (by omega) ?_
                                refine a_iinc7 (pc := 176) dX8_copy_176 (inc1 k) (by decide) rfl ?_
                                refine g_goto (pc := 179) (tgt := 121) dX8_copy_179 (by decide) ?_
                                exact ih (m - (k + 1)) (by omega) (k + 1) (by omega) _ hgo.2 _ rfl
                          exact lp121 _ 0 (Nat.zero_le _) μ (cpI.nil _ _ _ _ _) _ rfl
                    · have c94 : zn b < nx j + nx n := by
                        rw [e_g, e_m] at c_94
                        exact (cp_lem b_g b_m y4).mp (Int32.not_le.mp c_94)
                      have hout : ¬ (nx i + nx n ≤ zn a ∧ nx j + nx n ≤ zn b) := fun h => by omega
                      refine g_bipush (pc := 97) (v := (-12)) dX8_copy_97 (by decide) ?_
                      refine g_ireturn (pc := 99) dX8_copy_99 rfl (by first | rfl | decide) rfl ⟨_, rfl, ?_⟩
                      exact Or.inr (Or.inr (Or.inr (Or.inl ⟨hyes, hmis, c_50, hout, rfl, rfl⟩)))
          · refine g_bipush (pc := 53) (v := (-13)) dX8_copy_53 (by decide) ?_
            refine g_ireturn (pc := 55) dX8_copy_55 rfl (by first | rfl | decide) rfl ⟨_, rfl, ?_⟩
            exact Or.inr (Or.inr (Or.inl ⟨hyes, hmis, c_50, rfl, rfl⟩))
        · have hmis : zs a = -1 ∨ zs b = -1 := Or.inr ((hz b c11).resolve_right (fun q => by rw [← hb31, q.1] at c_32; exact absurd c_32 (by decide))).2
          refine g_bipush (pc := 35) (v := (-11)) dX8_copy_35 (by decide) ?_
          refine g_ireturn (pc := 37) dX8_copy_37 rfl (by first | rfl | decide) rfl ⟨_, rfl, ?_⟩
          exact Or.inr (Or.inl ⟨hyes, hmis, rfl, rfl⟩)
    · have c11 := (hd_8.resolve_left (fun q => absurd (q.1.symm.trans c_11) (by decide))).2
      have hno : ¬ (nx s < 4 ∧ nx t < 4) := fun h => c11 h.2
      refine g_bipush (pc := 14) (v := (-2)) dX8_copy_14 (by decide) ?_
      refine g_ireturn (pc := 16) dX8_copy_16 rfl (by first | rfl | decide) rfl ⟨_, rfl, ?_⟩
      exact Or.inl ⟨hno, rfl, rfl⟩
theorem pt_sub : ∀ a, a < 41 → ∀ k, k < 8 → (nI a - nI (2 * k) - nI 2).toInt = (a : Int) - 2 * k - 2 := by decide +kernel
theorem pt_lem {f a k : Nat} (hf : f < 2 ^ 31) (ha : a ≤ 40) (hk : k ≤ 7) : nI f ≤ nI a - nI (2 * k) - nI 2 ↔ f + 2 * k + 1 < a := by
  rw [Int32.le_iff_toInt_le, pt_sub a (by omega) k (by omega), nI_toInt hf]
  omega
theorem c_X8_parts (v : View) (zs : Nat → Int32) (zn : Nat → Nat) (zi : Nat → Nat → Int32) (μ : Mem) (hz : ZMs μ zs zn zi) (hV : MVw μ v) (s so x n : Int32) : CA eI yX8_parts cX8_parts 8 (some .int) 2 [.ref 57, .int s, .int so, .int x, .int n] μ (fun r μ1 => (¬ partsA s so n ∧ r = -2 ∧ μ1 = μ) ∨ (partsA s so n ∧ zs (nx s) = -1 ∧ r = -11 ∧ μ1 = μ) ∨ (partsA s so n ∧ ¬ zs (nx s) = -1 ∧ ¬ zs (nx s) = so ∧ r = -13 ∧ μ1 = μ) ∨ (partsA s so n ∧ ¬ zs (nx s) = -1 ∧ zs (nx s) = so ∧ ∃ i, i ≤ nx n ∧ MVw μ1 (paS v (zi (nx s)) (nx x) i).1 ∧ (∀ c, c ≠ 57 → c ≠ 61 → c ≠ 62 → μ1 c = μ c) ∧ (∀ j, j ≠ 11 → μ1 57 j = μ 57 j) ∧ (∀ j, j < i → nx x + 2 * j + 1 < zn (nx s)) ∧ ((i = nx n ∧ r = nI (paS v (zi (nx s)) (nx x) i).2) ∨ (i < nx n ∧ ¬ nx x + 2 * i + 1 < zn (nx s) ∧ r = -12)))) := by
  refine CT.of false (by decide) (by decide) (L := [some (.ref 57), some (.int s), some (.int so), some (.int x), some (.int n), none, none, none]) rfl (Nat.le_of_ble_eq_true rfl) ?_
  refine g_iload_n (pc := 0) dX8_parts_0 rfl ?_
  refine a_cs1i (pc := 1) (c_X8_isSheet s μ) m_X8_isSheet ml_X8_270 (by omega) (Nat.le_of_ble_eq_true rfl) dX8_parts_1 (fun x_1 μ_1 h_1 => ?_)
  obtain ⟨hm_1, hd_1⟩ := h_1
  have hm_1 := hm_1.symm
  subst hm_1
  refine g_if_eq (pc := 4) (tgt := 32) dX8_parts_4 (by decide) (fun c_4 => ?_) (fun c_4 => ?_)
  · have c4 := (hd_1.resolve_left (fun q => absurd (q.1.symm.trans c_4) (by decide))).2
    have hno : ¬ partsA s so n := fun h => c4 h.1
    refine g_bipush (pc := 32) (v := (-2)) dX8_parts_32 (by decide) ?_
    refine g_ireturn (pc := 34) dX8_parts_34 rfl (by first | rfl | decide) rfl ⟨_, rfl, ?_⟩
    exact Or.inl ⟨hno, rfl, rfl⟩
  · have c4 := (hd_1.resolve_right (fun q => c_4 q.1)).2
    refine g_iload_n (pc := 7) dX8_parts_7 rfl ?_
    refine g_i2l (pc := 8) dX8_parts_8 rfl ?_
    refine g_lconst (pc := 9) (v := 0) dX8_parts_9 (by decide) ?_
    refine g_ldc2 (pc := 10) dX8_parts_10 kc_X8_304 ?_
    refine a_cs3i (pc := 13) (c_X8_in so.toInt64 0 2 μ) m_X8_in ml_X8_76 (by omega) (Nat.le_of_ble_eq_true rfl) dX8_parts_13 (fun x_13 μ_13 h_13 => ?_)
    obtain ⟨hm_13, hd_13⟩ := h_13
    have hm_13 := hm_13.symm
    subst hm_13
    rw [in_c (x := so) (y := 0) (z := 2) 0 2 rfl rfl (by decide) (by decide)] at hd_13
    refine g_if_eq (pc := 16) (tgt := 32) dX8_parts_16 (by decide) (fun c_16 => ?_) (fun c_16 => ?_)
    · have c16 := (hd_13.resolve_left (fun q => absurd (q.1.symm.trans c_16) (by decide))).2
      have hno : ¬ partsA s so n := fun h => c16 ⟨Nat.zero_le _, h.2.1⟩
      refine g_bipush (pc := 32) (v := (-2)) dX8_parts_32 (by decide) ?_
      refine g_ireturn (pc := 34) dX8_parts_34 rfl (by first | rfl | decide) rfl ⟨_, rfl, ?_⟩
      exact Or.inl ⟨hno, rfl, rfl⟩
    · have c16 := (hd_13.resolve_right (fun q => c_16 q.1)).2
      refine g_iload (pc := 19) dX8_parts_19 rfl ?_
      refine g_i2l (pc := 21) dX8_parts_21 rfl ?_
      refine g_lconst (pc := 22) (v := 0) dX8_parts_22 (by decide) ?_
      refine g_ldc2 (pc := 23) dX8_parts_23 kc_X8_336 ?_
      refine a_cs3i (pc := 26) (c_X8_in n.toInt64 0 7 μ) m_X8_in ml_X8_76 (by omega) (Nat.le_of_ble_eq_true rfl) dX8_parts_26 (fun x_26 μ_26 h_26 => ?_)
      obtain ⟨hm_26, hd_26⟩ := h_26
      have hm_26 := hm_26.symm
      subst hm_26
      rw [in_c (x := n) (y := 0) (z := 7) 0 7 rfl rfl (by decide) (by decide)] at hd_26
      refine g_if_ne (pc := 29) (tgt := 35) dX8_parts_29 (by decide) (fun c_29 => ?_) (fun c_29 => ?_)
      · have c29 := (hd_26.resolve_right (fun q => c_29 q.1)).2
        have hyes : partsA s so n := ⟨c4, c16.2, c29.2⟩
        have d29 := c29.2
        have e_m := nx_lt (x := n) (n := 8) (by omega) (by decide)
        have e_a := nx_lt c4 (by omega)
        have d4 := c4
        generalize j_a : nx s = a at e_a d4
        subst e_a
        generalize j_m : nx n = m at e_m d29
        subst e_m
        refine g_aload_n (pc := 35) dX8_parts_35 rfl ?_
        refine a_getr (pc := 36) (q := 68) fl_X8_53 dX8_parts_36 (by first | rfl | assumption) rfl rfl ?_
        refine g_iload_n (pc := 39) dX8_parts_39 rfl ?_
        obtain ⟨b40, hb40⟩ : ∃ b, μ 68 a = b := ⟨_, rfl⟩
        refine v_zald (pc := 40) dX8_parts_40 (by first | rfl | assumption) rfl (by omega) hb40 ?_
        refine g_if_eq (pc := 41) (tgt := 57) dX8_parts_41 (by decide) (fun c_41 => ?_) (fun c_41 => ?_)
        · have z1 := ((hz a d4).resolve_right (fun q => by rw [← hb40, q.1] at c_41; exact absurd c_41 (by decide))).2
          refine g_aload_n (pc := 57) dX8_parts_57 rfl ?_
          refine a_getr (pc := 58) (q := 68) fl_X8_53 dX8_parts_58 (by first | rfl | assumption) rfl rfl ?_
          refine g_iload_n (pc := 61) dX8_parts_61 rfl ?_
          refine v_zald (pc := 62) dX8_parts_62 (by first | rfl | assumption) rfl (by omega) hb40 ?_
          refine g_if_ne (pc := 63) (tgt := 69) dX8_parts_63 (by decide) (fun c_63 => absurd c_41 c_63) (fun c_63 => ?_)
          refine g_bipush (pc := 66) (v := (-11)) dX8_parts_66 (by decide) ?_
          refine g_ireturn (pc := 68) dX8_parts_68 rfl (by first | rfl | decide) rfl ⟨_, rfl, ?_⟩
          exact Or.inr (Or.inl ⟨hyes, z1, rfl, rfl⟩)
        · obtain ⟨-, z1, z2, z3, z4, z5⟩ := (hz a d4).resolve_left (fun q => c_41 (by rw [← hb40, q.1]; rfl))
          refine g_aload_n (pc := 44) dX8_parts_44 rfl ?_
          refine a_getr (pc := 45) (q := 69) fl_X8_57 dX8_parts_45 (by first | rfl | assumption) rfl rfl ?_
          refine g_iload_n (pc := 48) dX8_parts_48 rfl ?_
          refine v_iald (pc := 49) dX8_parts_49 (by first | rfl | assumption) rfl (by omega) z2 ?_
          refine g_iload_n (pc := 50) dX8_parts_50 rfl ?_
          refine g_icmp_eq (pc := 51) (tgt := 57) dX8_parts_51 (by decide) (fun c_51 => ?_) (fun c_51 => ?_)
          · refine g_aload_n (pc := 57) dX8_parts_57 rfl ?_
            refine a_getr (pc := 58) (q := 68) fl_X8_53 dX8_parts_58 (by first | rfl | assumption) rfl rfl ?_
            refine g_iload_n (pc := 61) dX8_parts_61 rfl ?_
            refine v_zald (pc := 62) dX8_parts_62 (by first | rfl | assumption) rfl (by omega) hb40 ?_
            refine g_if_ne (pc := 63) (tgt := 69) dX8_parts_63 (by decide) (fun c_63 => ?_) (fun c_63 => absurd c_63 c_41)
            refine g_iconst (pc := 69) (v := (nI 0)) dX8_parts_69 (by decide) ?_
            refine a_ist5 (pc := 70) dX8_parts_70 (by decide) rfl ?_
            refine g_iconst (pc := 72) (v := (nI 0)) dX8_parts_72 (by decide) ?_
            refine a_ist6 (pc := 73) dX8_parts_73 (by decide) rfl ?_
            have lp75 : ∀ (zz : Nat) (i : Nat) (hi : i ≤ m) (ν : Mem) (hν : MVw ν (paS v (zi a) (nx x) i).1 ∧ (∀ c, c ≠ 57 → c ≠ 61 → c ≠ 62 → ν c = μ c) ∧ (∀ j, j ≠ 11 → ν 57 j = μ 57 j) ∧ ∀ j, j < i → nx x + 2 * j + 1 < zn a) (l7 : Option Value), m - i = zz → WG eI yX8_parts.cls cX8_parts 8 (some .int) false (fun _ _ => True) 2 (mpost (fun r μ1 => (¬ partsA (nI a) so (nI m) ∧ r = -2 ∧ μ1 = μ) ∨ (partsA (nI a) so (nI m) ∧ zs a = -1 ∧ r = -11 ∧ μ1 = μ) ∨ (partsA (nI a) so (nI m) ∧ ¬ zs a = -1 ∧ ¬ zs a = so ∧ r = -13 ∧ μ1 = μ) ∨ (partsA (nI a) so (nI m) ∧ ¬ zs a = -1 ∧ zs a = so ∧ ∃ i, i ≤ m ∧ MVw μ1 (paS v (zi a) (nx x) i).1 ∧ (∀ c, c ≠ 57 → c ≠ 61 → c ≠ 62 → μ1 c = μ c) ∧ (∀ j, j ≠ 11 → μ1 57 j = μ 57 j) ∧ (∀ j, j < i → nx x + 2 * j + 1 < zn a) ∧ ((i = m ∧ r = nI (paS v (zi a) (nx x) i).2) ∨ (i < m ∧ ¬ nx x + 2 * i + 1 < zn a ∧ r = -12))))) 0 0 75 [some (.ref 57), some (.int (nI a)), some (.int so), some (.int x), some (.int (nI m)), some (.int (nI (paS v (zi a) (nx x) i).2)), some (.int (nI i)), l7] [] (mk ν) := by
              intro zz
              induction zz using Nat.strongRecOn with
              | ind zz ih =>
                intro i hi ν hν l7 hzz
                obtain ⟨d1, f1, f2, g1⟩ := hν
                have hrec : paS v (zi a) (nx x) (i + 1) = if partOK (zi a (nx x + 2 * i)) (zi a (nx x + 2 * i + 1)) ∧ (paS v (zi a) (nx x) i).1 0 3 < 7 then (addV (paS v (zi a) (nx x) i).1 (nx (zi a (nx x + 2 * i))) (nx (zi a (nx x + 2 * i + 1))), (paS v (zi a) (nx x) i).2 + 1) else paS v (zi a) (nx x) i := rfl
                refine g_iload (pc := 75) dX8_parts_75 rfl ?_
                refine g_iload (pc := 77) dX8_parts_77 rfl ?_
                refine g_icmp_ge (pc := 79) (tgt := 158) dX8_parts_79 (by decide) (fun c_79 => ?_) (fun c_79 => ?_)
                · have c79 := nI_le' (by omega) (by omega) c_79
                  obtain rfl : i = m := by omega
                  refine g_iload (pc := 158) dX8_parts_158 rfl ?_
                  refine g_ireturn (pc := 160) dX8_parts_160 rfl (by first | rfl | decide) rfl ⟨_, rfl, ?_⟩
                  exact Or.inr (Or.inr (Or.inr ⟨hyes, z1, c_51, _, Nat.le_refl _, d1, f1, f2, g1, Or.inl ⟨rfl, rfl⟩⟩))
                · have c79 := nI_gt' (by omega) (by omega) c_79
                  refine g_iload_n (pc := 82) dX8_parts_82 rfl ?_
                  refine g_if_lt (pc := 83) (tgt := 103) dX8_parts_83 (by decide) (fun c_83 => ?_) (fun c_83 => ?_)
                  · have hout : ¬ nx x + 2 * i + 1 < zn a := by
                      rw [nx_neg c_83]
                      omega
                    refine g_bipush (pc := 103) (v := (-12)) dX8_parts_103 (by decide) ?_
                    refine g_ireturn (pc := 105) dX8_parts_105 rfl (by first | rfl | decide) rfl ⟨_, rfl, ?_⟩
                    exact Or.inr (Or.inr (Or.inr ⟨hyes, z1, c_51, i, hi, d1, f1, f2, g1, Or.inr ⟨c79, hout, rfl⟩⟩))
                  · obtain ⟨e_f, b_f⟩ := nx_of c_83
                    obtain ⟨f, hf⟩ : ∃ f, nx x = f := ⟨_, rfl⟩
                    rw [hf] at e_f b_f
                    refine g_iload_n (pc := 86) dX8_parts_86 rfl ?_
                    refine g_aload_n (pc := 87) dX8_parts_87 rfl ?_
                    refine a_getr (pc := 88) (q := 70) fl_X8_60 dX8_parts_88 (by first | rfl | assumption) rfl rfl ?_
                    refine g_iload_n (pc := 91) dX8_parts_91 rfl ?_
                    refine v_iald (pc := 92) dX8_parts_92 (by first | rfl | assumption) rfl (by omega) ((congrFun (f1 70 (by omega) (by omega) (by omega)) a).trans z3) ?_
                    refine g_iconst (pc := 93) (v := (nI 2)) dX8_parts_93 (by decide) ?_
                    refine g_iload (pc := 94) dX8_parts_94 rfl ?_
                    refine v_imul (pc := 96) dX8_parts_96 (pk_mul 2 i) ?_
                    refine v_isub (pc := 97) dX8_parts_97 rfl ?_
                    refine g_iconst (pc := 98) (v := (nI 2)) dX8_parts_98 (by decide) ?_
                    refine v_isub (pc := 99) dX8_parts_99 rfl ?_
                    refine g_icmp_le (pc := 100) (tgt := 106) dX8_parts_100 (by decide) (fun c_100 => ?_) (fun c_100 => ?_)
                    · have c100 : f + 2 * i + 1 < zn a := by
                        rw [e_f] at c_100
                        exact (pt_lem b_f z4 (by omega)).mp c_100
                      have g9 : ∀ j, j < i + 1 → nx x + 2 * j + 1 < zn a := fun j hj => by
                        rcases Nat.lt_or_ge j i with h | h
                        · exact g1 j h
                        · obtain rfl : j = i := by omega
                          rw [hf]
                          exact c100
                      have hL9 : (Value.int x) = .int (nI f) := congrArg Value.int e_f
                      refine g_bipush (pc := 106) (v := (nI 40)) dX8_parts_106 (by decide) ?_
                      refine g_iload_n (pc := 108) dX8_parts_108 rfl ?_
                      refine v_imul (pc := 109) dX8_parts_109 (pk_mul 40 a) ?_
                      refine g_iload_n (pc := 110) dX8_parts_110 rfl ?_
                      refine v_iadd (pc := 111) dX8_parts_111 (show nI (40 * a) + x = nI (40 * a + f) by rw [e_f]; exact nI_add _ _) ?_
                      refine g_iconst (pc := 112) (v := (nI 2)) dX8_parts_112 (by decide) ?_
                      refine g_iload (pc := 113) dX8_parts_113 rfl ?_
                      refine v_imul (pc := 115) dX8_parts_115 (pk_mul 2 i) ?_
                      refine v_iadd (pc := 116) dX8_parts_116 (nI_add _ _) ?_
                      refine a_ist7 (pc := 117) dX8_parts_117 (by decide) rfl ?_
                      refine g_iload (pc := 119) dX8_parts_119 rfl ?_
                      refine g_aload_n (pc := 121) dX8_parts_121 rfl ?_
                      refine g_aload_n (pc := 122) dX8_parts_122 rfl ?_
                      refine a_getr (pc := 123) (q := 71) fl_X8_63 dX8_parts_123 (by first | rfl | assumption) rfl rfl ?_
                      refine g_iload (pc := 126) dX8_parts_126 rfl ?_
                      refine v_iald (pc := 128) dX8_parts_128 (by first | rfl | assumption) rfl (by omega) ((congrFun (f1 71 (by omega) (by omega) (by omega)) _).trans ((congrArg (μ 71) (show 40 * a + f + 2 * i = 40 * a + (f + 2 * i) by omega)).trans (z5 (f + 2 * i) (by omega)))) ?_
                      refine g_aload_n (pc := 129) dX8_parts_129 rfl ?_
                      refine a_getr (pc := 130) (q := 71) fl_X8_63 dX8_parts_130 (by first | rfl | assumption) rfl rfl ?_
                      refine g_iload (pc := 133) dX8_parts_133 rfl ?_
                      refine g_iconst (pc := 135) (v := (nI 1)) dX8_parts_135 (by decide) ?_
                      refine v_iadd (pc := 136) dX8_parts_136 (nI_add _ 1) ?_
                      refine v_iald (pc := 137) dX8_parts_137 (by first | rfl | assumption) rfl (by omega) ((congrFun (f1 71 (by omega) (by omega) (by omega)) _).trans ((congrArg (μ 71) (show 40 * a + f + 2 * i + 1 = 40 * a + (f + 2 * i + 1) by omega)).trans (z5 (f + 2 * i + 1) (by omega)))) ?_
                      refine a_cv2i (pc := 138) (c_X8_part _ ν d1 (zi a (f + 2 * i)) (zi a (f + 2 * i + 1))) m_X8_part ml_X8_338 (by omega) (by first | rfl | assumption) rfl rfl (Nat.le_of_ble_eq_true rfl) dX8_parts_138 (fun x_138 μ_138 h_138 => ?_)
                      have hd := (show _ ∨ _ from h_138)
                      have hn7 := d1.2.2.2.1.2
                      rw [hf] at hrec hd hn7
                      refine g_if_lt (pc := 141) (tgt := 148) dX8_parts_141 (by decide) (fun c_141 => ?_) (fun c_141 => ?_)
                      · obtain ⟨hk, hm⟩ : (¬ (partOK (zi a (f + 2 * i)) (zi a (f + 2 * i + 1)) ∧ (paS v (zi a) f i).1 0 3 < 7)) ∧ μ_138 = ν := by
                          rcases hd with h | h | h
                          · exact ⟨fun g => h.1 g.1, h.2.2⟩
                          · exact ⟨fun g => by
                              have := g.2
                              omega, h.2.2.2⟩
                          · rw [h.2.2.1] at c_141
                            exact absurd c_141 (nI_pos (by omega))
                        rw [if_neg hk] at hrec
                        have d9 : MVw μ_138 (paS v (zi a) (nx x) (i + 1)).1 := by
                          rw [hf, hrec, hm, ← hf]
                          exact d1
                        have f9 : ∀ c, c ≠ 57 → c ≠ 61 → c ≠ 62 → μ_138 c = μ c := by
                          rw [hm]
                          exact f1
                        have f8 : ∀ j, j ≠ 11 → μ_138 57 j = μ 57 j := by
                          rw [hm]
                          exact f2
                        refine g_iconst (pc := 148) (v := (nI 0)) dX8_parts_148 (by decide) ?_
                        refine v_iadd (pc := 149) dX8_parts_149 (nI_add _ 0) ?_
                        refine a_ist5 (pc := 150) dX8_parts_150 (by decide) rfl ?_
                        refine a_iinc6 (pc := 152) dX8_parts_152 (inc1 i) (by decide) rfl ?_
                        refine g_goto (pc := 155) (tgt := 75) dX8_parts_155 (by decide) ?_
                        have hfin := ih (m - (i + 1)) (by omega) (i + 1) (by omega) μ_138 ⟨d9, f9, f8, g9⟩ (some (.int (nI (40 * a + f + 2 * i)))) rfl
                        rw [← hf] at hrec
                        rw [hrec] at hfin
                        exact hfin
                      · obtain ⟨hk, d8, f6, f7⟩ : (partOK (zi a (f + 2 * i)) (zi a (f + 2 * i + 1)) ∧ (paS v (zi a) f i).1 0 3 < 7) ∧ MVw μ_138 (addV (paS v (zi a) f i).1 (nx (zi a (f + 2 * i))) (nx (zi a (f + 2 * i + 1)))) ∧ (∀ c, c ≠ 57 → c ≠ 61 → c ≠ 62 → μ_138 c = ν c) ∧ ∀ j, j ≠ 11 → μ_138 57 j = ν 57 j := by
                          rcases hd with h | h | h
                          · exact absurd (show x_138 < 0 by rw [h.2.1]; decide) c_141
                          · exact absurd (show x_138 < 0 by rw [h.2.2.1]; decide) c_141
                          · exact ⟨⟨h.1, h.2.1⟩, h.2.2.2⟩
                        rw [if_pos hk] at hrec
                        have d9 : MVw μ_138 (paS v (zi a) (nx x) (i + 1)).1 := by
                          rw [hf, hrec]
                          exact d8
                        have f9 : ∀ c, c ≠ 57 → c ≠ 61 → c ≠ 62 → μ_138 c = μ c := fun c h1 h2 h3 => (f6 c h1 h2 h3).trans (f1 c h1 h2 h3)
                        have f8 : ∀ j, j ≠ 11 → μ_138 57 j = μ 57 j := fun j hj => (f7 j hj).trans (f2 j hj)
                        refine g_iconst (pc := 144) (v := (nI 1)) dX8_parts_144 (by decide) ?_
                        refine g_goto (pc := 145) (tgt := 149) dX8_parts_145 (by decide) ?_
                        refine v_iadd (pc := 149) dX8_parts_149 (nI_add _ 1) ?_
                        refine a_ist5 (pc := 150) dX8_parts_150 (by decide) rfl ?_
                        refine a_iinc6 (pc := 152) dX8_parts_152 (inc1 i) (by decide) rfl ?_
                        refine g_goto (pc := 155) (tgt := 75) dX8_parts_155 (by decide) ?_
                        have hfin := ih (m - (i + 1)) (by omega) (i + 1) (by omega) μ_138 ⟨d9, f9, f8, g9⟩ (some (.int (nI (40 * a + f + 2 * i)))) rfl
                        rw [← hf] at hrec
                        rw [hrec] at hfin
                        exact hfin
                    · have hout : ¬ nx x + 2 * i + 1 < zn a := fun h => c_100 (by
                        rw [e_f]
                        exact (pt_lem b_f z4 (by omega)).mpr (by rw [hf] at h; exact h))
                      refine g_bipush (pc := 103) (v := (-12)) dX8_parts_103 (by decide) ?_
                      refine g_ireturn (pc := 105) dX8_parts_105 rfl (by first | rfl | decide) rfl ⟨_, rfl, ?_⟩
                      exact Or.inr (Or.inr (Or.inr ⟨hyes, z1, c_51, i, hi, d1, f1, f2, g1, Or.inr ⟨c79, hout, rfl⟩⟩))
            exact lp75 _ 0 (Nat.zero_le _) _ ⟨hV, fun _ _ _ _ => rfl, fun _ _ => rfl, fun j hj => absurd hj (Nat.not_lt_zero j)⟩ _ rfl
          · refine g_bipush (pc := 54) (v := (-13)) dX8_parts_54 (by decide) ?_
            refine g_ireturn (pc := 56) dX8_parts_56 rfl (by first | rfl | decide) rfl ⟨_, rfl, ?_⟩
            exact Or.inr (Or.inr (Or.inl ⟨hyes, z1, c_51, rfl, rfl⟩))
      · have c29 := (hd_26.resolve_left (fun q => absurd (q.1.symm.trans c_29) (by decide))).2
        have hno : ¬ partsA s so n := fun h => c29 ⟨Nat.zero_le _, h.2.2⟩
        refine g_bipush (pc := 32) (v := (-2)) dX8_parts_32 (by decide) ?_
        refine g_ireturn (pc := 34) dX8_parts_34 rfl (by first | rfl | decide) rfl ⟨_, rfl, ?_⟩
        exact Or.inl ⟨hno, rfl, rfl⟩
