/-! ===== the model: sheets ===== -/
theorem in_m1 {x : Int32} {y z : Int64} (hy : y = -1) (hz : z = lN 2) : (y ≤ x.toInt64 ∧ x.toInt64 ≤ z) ↔ (x = -1 ∨ nx x ≤ 2) := by
  rw [hy, hz, Int64.le_iff_toInt_le, Int64.le_iff_toInt_le, Int32.toInt_toInt64, lN_toInt (by decide), show (-1 : Int64).toInt = -1 by decide]
  by_cases h : x < 0
  · rw [nx_neg h]
    rw [Int32.lt_iff_toInt_lt] at h
    have e0 : (0 : Int32).toInt = 0 := by decide
    rw [e0] at h
    have e1 : x = -1 ↔ x.toInt = -1 := by
      rw [← Int32.toInt_inj, show (-1 : Int32).toInt = -1 by decide]
    rw [e1]
    omega
  · obtain ⟨h1, h2⟩ := nx_of h
    have h3 : x.toInt = (nx x : Int) := by
      have := nI_toInt h2
      rw [← h1] at this
      exact this
    have e1 : ¬ x = -1 := fun q => h (by rw [q]; decide)
    constructor
    · intro q
      exact Or.inr (by omega)
    · intro q
      have := q.resolve_left e1
      omega
def SFm (μ μ1 : Mem) : Prop := ∀ k, k < 68 ∨ 71 < k → μ1 k = μ k
theorem ZMs.off {μ μ1 : Mem} {zs : Nat → Int32} {zn : Nat → Nat} {zi : Nat → Nat → Int32} {s : Nat} (h : ZMs μ zs zn zi) (h68 : μ1 68 s = nI 0) (g68 : ∀ t, t ≠ s → μ1 68 t = μ 68 t) (g69 : ∀ t, t ≠ s → μ1 69 t = μ 69 t) (g70 : ∀ t, t ≠ s → μ1 70 t = μ 70 t) (g71 : μ1 71 = μ 71) : ZMs μ1 (updN zs s (-1)) zn zi := fun t ht => by
  by_cases hts : t = s
  · subst hts
    rw [updN_eq]
    exact Or.inl ⟨h68, rfl⟩
  · rw [updN_ne _ _ hts, g68 t hts, g69 t hts, g70 t hts, g71]
    exact h t ht
theorem ZMs.on {μ μ1 : Mem} {zs : Nat → Int32} {zn : Nat → Nat} {zi : Nat → Nat → Int32} {s m : Nat} {so : Int32} {f : Nat → Int32} (h : ZMs μ zs zn zi) (hso : ¬ so = -1) (hm : m ≤ 40) (h68 : μ1 68 s = nI 1) (h69 : μ1 69 s = so) (h70 : μ1 70 s = nI m) (h71 : ∀ j, j < m → μ1 71 (40 * s + j) = f j) (g68 : ∀ t, t ≠ s → μ1 68 t = μ 68 t) (g69 : ∀ t, t ≠ s → μ1 69 t = μ 69 t) (g70 : ∀ t, t ≠ s → μ1 70 t = μ 70 t) (g71 : ∀ k, k < 40 * s ∨ 40 * s + 40 ≤ k → μ1 71 k = μ 71 k) : ZMs μ1 (updN zs s so) (updN zn s m) (updN zi s f) := fun t ht => by
  by_cases hts : t = s
  · subst hts
    rw [updN_eq, updN_eq, updN_eq]
    exact Or.inr ⟨h68, hso, h69, h70, hm, h71⟩
  · rw [updN_ne _ _ hts, updN_ne _ _ hts, updN_ne _ _ hts, g68 t hts, g69 t hts, g70 t hts]
    rcases h t ht with q | ⟨q1, q2, q3, q4, q5, q6⟩
    · exact Or.inl q
    · exact Or.inr ⟨q1, q2, q3, q4, q5, fun j hj => (g71 _ (by omega)).trans (q6 j hj)⟩
theorem ZMs.items {μ μ1 : Mem} {zs : Nat → Int32} {zn : Nat → Nat} {zi zi1 : Nat → Nat → Int32} (h : ZMs μ zs zn zi) (g : ∀ k, k ≠ 71 → μ1 k = μ k) (g71 : ∀ t, t < 4 → zn t ≤ 40 → (∀ j, j < zn t → μ 71 (40 * t + j) = zi t j) → ∀ j, j < zn t → μ1 71 (40 * t + j) = zi1 t j) : ZMs μ1 zs zn zi1 := fun t ht => by
  rw [g 68 (by omega), g 69 (by omega), g 70 (by omega)]
  rcases h t ht with q | ⟨q1, q2, q3, q4, q5, q6⟩
  · exact Or.inl q
  · exact Or.inr ⟨q1, q2, q3, q4, q5, g71 t ht q5 q6⟩
theorem c_X8_sheet (zs : Nat → Int32) (zn : Nat → Nat) (zi : Nat → Nat → Int32) (μ : Mem) (hz : ZMs μ zs zn zi) (s so n : Int32) : CA eI yX8_sheet cX8_sheet 5 (some .int) 2 [.ref 57, .int s, .int so, .int n] μ (fun r μ1 => (¬ sheetA s so ∧ r = -2 ∧ μ1 = μ) ∨ (nx s < 4 ∧ so = -1 ∧ r = nI 1 ∧ ZMs μ1 (updN zs (nx s) (-1)) zn zi ∧ SFm μ μ1) ∨ (nx s < 4 ∧ nx so ≤ 2 ∧ ((¬ n < 0 ∧ 40 < nx n ∧ r = -2 ∧ μ1 = μ) ∨ (n < 0 ∧ r = -14 ∧ μ1 = μ) ∨ (nx n ≤ 40 ∧ r = nI 1 ∧ ZMs μ1 (updN zs (nx s) so) (updN zn (nx s) (nx n)) (updN zi (nx s) (fun _ => nI 0)) ∧ SFm μ μ1)))) := by
  refine CT.of false (by decide) (by decide) (L := [some (.ref 57), some (.int s), some (.int so), some (.int n), none]) rfl (Nat.le_of_ble_eq_true rfl) ?_
  refine g_iload_n (pc := 0) dX8_sheet_0 rfl ?_
  refine a_cs1i (pc := 1) (c_X8_isSheet s μ) m_X8_isSheet ml_X8_270 (by omega) (Nat.le_of_ble_eq_true rfl) dX8_sheet_1 (fun x_1 μ_1 h_1 => ?_)
  obtain ⟨hm_1, hd_1⟩ := h_1
  have hm_1 := hm_1.symm
  subst hm_1
  refine g_if_eq (pc := 4) (tgt := 31) dX8_sheet_4 (by decide) (fun c_4 => ?_) (fun c_4 => ?_)
  · have c4 := (hd_1.resolve_left (fun q => absurd (q.1.symm.trans c_4) (by decide))).2
    have hno : ¬ sheetA s so := fun h => c4 h.1
    refine g_bipush (pc := 31) (v := (-2)) dX8_sheet_31 (by decide) ?_
    refine g_ireturn (pc := 33) dX8_sheet_33 rfl (by first | rfl | decide) rfl ⟨_, rfl, ?_⟩
    exact Or.inl ⟨hno, rfl, rfl⟩
  · have c4 := (hd_1.resolve_right (fun q => c_4 q.1)).2
    have e_a := nx_lt c4 (by omega)
    generalize j_a : nx s = a at e_a c4
    subst e_a
    refine g_iload_n (pc := 7) dX8_sheet_7 rfl ?_
    refine g_i2l (pc := 8) dX8_sheet_8 rfl ?_
    refine g_ldc2 (pc := 9) dX8_sheet_9 kc_X8_334 ?_
    refine g_ldc2 (pc := 12) dX8_sheet_12 kc_X8_304 ?_
    refine a_cs3i (pc := 15) (c_X8_in so.toInt64 (-1) 2 μ) m_X8_in ml_X8_76 (by omega) (Nat.le_of_ble_eq_true rfl) dX8_sheet_15 (fun x_15 μ_15 h_15 => ?_)
    obtain ⟨hm_15, hd_15⟩ := h_15
    have hm_15 := hm_15.symm
    subst hm_15
    rw [in_m1 (x := so) (y := -1) (z := 2) rfl rfl] at hd_15
    refine g_if_eq (pc := 18) (tgt := 31) dX8_sheet_18 (by decide) (fun c_18 => ?_) (fun c_18 => ?_)
    · have c18 := (hd_15.resolve_left (fun q => absurd (q.1.symm.trans c_18) (by decide))).2
      have hno : ¬ sheetA (nI a) so := fun h => c18 h.2
      refine g_bipush (pc := 31) (v := (-2)) dX8_sheet_31 (by decide) ?_
      refine g_ireturn (pc := 33) dX8_sheet_33 rfl (by first | rfl | decide) rfl ⟨_, rfl, ?_⟩
      exact Or.inl ⟨hno, rfl, rfl⟩
    · have c18 := (hd_15.resolve_right (fun q => c_18 q.1)).2
      refine g_iload_n (pc := 21) dX8_sheet_21 rfl ?_
      refine g_if_lt (pc := 22) (tgt := 34) dX8_sheet_22 (by decide) (fun c_22 => ?_) (fun c_22 => ?_)
      · have hso : so = -1 := c18.resolve_right (fun q => by rw [nx_neg c_22] at q; omega)
        refine g_iload_n (pc := 34) dX8_sheet_34 rfl ?_
        refine g_if_lt (pc := 35) (tgt := 45) dX8_sheet_35 (by decide) (fun c_35 => ?_) (fun c_35 => absurd c_22 c_35)
        refine g_aload_n (pc := 45) dX8_sheet_45 rfl ?_
        refine a_getr (pc := 46) (q := 68) fl_X8_53 dX8_sheet_46 (by first | rfl | assumption) rfl rfl ?_
        refine g_iload_n (pc := 49) dX8_sheet_49 rfl ?_
        refine g_iload_n (pc := 50) dX8_sheet_50 rfl ?_
        refine g_if_lt (pc := 51) (tgt := 58) dX8_sheet_51 (by decide) (fun c_51 => ?_) (fun c_51 => absurd c_22 c_51)
        refine g_iconst (pc := 58) (v := (nI 0)) dX8_sheet_58 (by decide) ?_
        refine a_zast (pc := 59) dX8_sheet_59 (by first | rfl | assumption) rfl (by omega) (by decide) ?_
        refine g_aload_n (pc := 60) dX8_sheet_60 rfl ?_
        refine a_getr (pc := 61) (q := 69) fl_X8_57 dX8_sheet_61 (by first | rfl | assumption) rfl rfl ?_
        refine g_iload_n (pc := 64) dX8_sheet_64 rfl ?_
        refine g_iload_n (pc := 65) dX8_sheet_65 rfl ?_
        refine a_iast (pc := 66) dX8_sheet_66 (by first | rfl | assumption) rfl (by omega) ?_
        refine g_aload_n (pc := 67) dX8_sheet_67 rfl ?_
        refine a_getr (pc := 68) (q := 70) fl_X8_60 dX8_sheet_68 (by first | rfl | assumption) rfl rfl ?_
        refine g_iload_n (pc := 71) dX8_sheet_71 rfl ?_
        refine g_iload_n (pc := 72) dX8_sheet_72 rfl ?_
        refine a_iast (pc := 73) dX8_sheet_73 (by first | rfl | assumption) rfl (by omega) ?_
        refine g_iconst (pc := 74) (v := (nI 0)) dX8_sheet_74 (by decide) ?_
        refine a_ist4 (pc := 75) dX8_sheet_75 (by decide) rfl ?_
        refine g_iload (pc := 77) dX8_sheet_77 rfl ?_
        refine g_iload_n (pc := 79) dX8_sheet_79 rfl ?_
        refine g_icmp_ge (pc := 80) (tgt := 106) dX8_sheet_80 (by decide) (fun c_80 => ?_) (fun c_80 => ?_)
        · refine g_iconst (pc := 106) (v := (nI 1)) dX8_sheet_106 (by decide) ?_
          refine g_ireturn (pc := 107) dX8_sheet_107 rfl (by first | rfl | decide) rfl ⟨_, rfl, ?_⟩
          refine Or.inr (Or.inl ⟨by omega, hso, rfl, hz.off (by rw [mset_ne (by decide), mset_ne (by decide), mset_eq]) (fun t ht => by rw [mset_ne (by decide), mset_ne (by decide), mset_nj ht]) (fun t ht => by rw [mset_ne (by decide), mset_nj ht, mset_ne (by decide)]) (fun t ht => by rw [mset_nj ht, mset_ne (by decide), mset_ne (by decide)]) (by rw [mset_ne (by decide), mset_ne (by decide), mset_ne (by decide)]), fun k hk => by rw [mset_ne (by omega), mset_ne (by omega), mset_ne (by omega)]⟩)
        · refine g_iload_n (pc := 83) dX8_sheet_83 rfl ?_
          refine g_if_lt (pc := 84) (tgt := 106) dX8_sheet_84 (by decide) (fun c_84 => ?_) (fun c_84 => absurd c_22 c_84)
          refine g_iconst (pc := 106) (v := (nI 1)) dX8_sheet_106 (by decide) ?_
          refine g_ireturn (pc := 107) dX8_sheet_107 rfl (by first | rfl | decide) rfl ⟨_, rfl, ?_⟩
          refine Or.inr (Or.inl ⟨by omega, hso, rfl, hz.off (by rw [mset_ne (by decide), mset_ne (by decide), mset_eq]) (fun t ht => by rw [mset_ne (by decide), mset_ne (by decide), mset_nj ht]) (fun t ht => by rw [mset_ne (by decide), mset_nj ht, mset_ne (by decide)]) (fun t ht => by rw [mset_nj ht, mset_ne (by decide), mset_ne (by decide)]) (by rw [mset_ne (by decide), mset_ne (by decide), mset_ne (by decide)]), fun k hk => by rw [mset_ne (by omega), mset_ne (by omega), mset_ne (by omega)]⟩)
      · have hso : nx so ≤ 2 := c18.resolve_left (fun q => c_22 (by rw [q]; decide))
        have hsm : ¬ so = -1 := fun q => c_22 (by rw [q]; decide)
        refine g_iload_n (pc := 25) dX8_sheet_25 rfl ?_
        refine g_bipush (pc := 26) (v := (nI 40)) dX8_sheet_26 (by decide) ?_
        refine g_icmp_le (pc := 28) (tgt := 34) dX8_sheet_28 (by decide) (fun c_28 => ?_) (fun c_28 => ?_)
        · refine g_iload_n (pc := 34) dX8_sheet_34 rfl ?_
          refine g_if_lt (pc := 35) (tgt := 45) dX8_sheet_35 (by decide) (fun c_35 => absurd c_35 c_22) (fun c_35 => ?_)
          refine g_iload_n (pc := 38) dX8_sheet_38 rfl ?_
          refine g_if_ge (pc := 39) (tgt := 45) dX8_sheet_39 (by decide) (fun c_39 => ?_) (fun c_39 => ?_)
          · have c51 : ¬ n < 0 := Int32.not_lt.mpr c_39
            obtain ⟨e_m, b_m⟩ := nx_of c51
            have c44 : nx n ≤ 40 := by
              have h3 := c_28
              rw [e_m] at h3
              exact nI_le' b_m (by decide) h3
            generalize j_m : nx n = m at e_m c44 b_m
            subst e_m
            refine g_aload_n (pc := 45) dX8_sheet_45 rfl ?_
            refine a_getr (pc := 46) (q := 68) fl_X8_53 dX8_sheet_46 (by first | rfl | assumption) rfl rfl ?_
            refine g_iload_n (pc := 49) dX8_sheet_49 rfl ?_
            refine g_iload_n (pc := 50) dX8_sheet_50 rfl ?_
            refine g_if_lt (pc := 51) (tgt := 58) dX8_sheet_51 (by decide) (fun c_51 => absurd c_51 c_22) (fun c_51 => ?_)
            refine g_iconst (pc := 54) (v := (nI 1)) dX8_sheet_54 (by decide) ?_
            refine g_goto (pc := 55) (tgt := 59) dX8_sheet_55 (by decide) ?_
            refine a_zast (pc := 59) dX8_sheet_59 (by first | rfl | assumption) rfl (by omega) (by decide) ?_
            refine g_aload_n (pc := 60) dX8_sheet_60 rfl ?_
            refine a_getr (pc := 61) (q := 69) fl_X8_57 dX8_sheet_61 (by first | rfl | assumption) rfl rfl ?_
            refine g_iload_n (pc := 64) dX8_sheet_64 rfl ?_
            refine g_iload_n (pc := 65) dX8_sheet_65 rfl ?_
            refine a_iast (pc := 66) dX8_sheet_66 (by first | rfl | assumption) rfl (by omega) ?_
            refine g_aload_n (pc := 67) dX8_sheet_67 rfl ?_
            refine a_getr (pc := 68) (q := 70) fl_X8_60 dX8_sheet_68 (by first | rfl | assumption) rfl rfl ?_
            refine g_iload_n (pc := 71) dX8_sheet_71 rfl ?_
            refine g_iload_n (pc := 72) dX8_sheet_72 rfl ?_
            refine a_iast (pc := 73) dX8_sheet_73 (by first | rfl | assumption) rfl (by omega) ?_
            refine g_iconst (pc := 74) (v := (nI 0)) dX8_sheet_74 (by decide) ?_
            refine a_ist4 (pc := 75) dX8_sheet_75 (by decide) rfl ?_
            have lp77 : ∀ (zz : Nat) (i : Nat) (hi : i ≤ m) (ν : Mem) (hν : (∀ j, j < i → ν 71 (40 * a + j) = nI 0) ∧ (∀ k, k < 40 * a ∨ 40 * a + 40 ≤ k → ν 71 k = (mset (mset (mset μ 68 a (nI 1)) 69 a so) 70 a (nI m)) 71 k) ∧ ∀ c, c ≠ 71 → ν c = (mset (mset (mset μ 68 a (nI 1)) 69 a so) 70 a (nI m)) c), m - i = zz → WG eI yX8_sheet.cls cX8_sheet 5 (some .int) false (fun _ _ => True) 2 (mpost (fun r μ1 => (¬ sheetA (nI a) so ∧ r = -2 ∧ μ1 = μ) ∨ (a < 4 ∧ so = -1 ∧ r = nI 1 ∧ ZMs μ1 (updN zs a (-1)) zn zi ∧ SFm μ μ1) ∨ (a < 4 ∧ nx so ≤ 2 ∧ ((¬ nI m < 0 ∧ 40 < m ∧ r = -2 ∧ μ1 = μ) ∨ (nI m < 0 ∧ r = -14 ∧ μ1 = μ) ∨ (m ≤ 40 ∧ r = nI 1 ∧ ZMs μ1 (updN zs a so) (updN zn a (m)) (updN zi a (fun _ => nI 0)) ∧ SFm μ μ1))))) 0 0 77 [some (.ref 57), some (.int (nI a)), some (.int so), some (.int (nI m)), some (.int (nI i))] [] (mk ν) := by
              intro zz
              induction zz using Nat.strongRecOn with
              | ind zz ih =>
                intro i hi ν hν hzz
                skip
                refine g_iload (pc := 77) dX8_sheet_77 rfl ?_
                refine g_iload_n (pc := 79) dX8_sheet_79 rfl ?_
                refine g_icmp_ge (pc := 80) (tgt := 106) dX8_sheet_80 (by decide) (fun c_80 => ?_) (fun c_80 => ?_)
                · have c80 := nI_le' (by omega) (by omega) c_80
                  obtain rfl : i = m := by omega
                  refine g_iconst (pc := 106) (v := (nI 1)) dX8_sheet_106 (by decide) ?_
                  refine g_ireturn (pc := 107) dX8_sheet_107 rfl (by first | rfl | decide) rfl ⟨_, rfl, ?_⟩
                  obtain ⟨a1, a2, a3⟩ := hν
                  refine Or.inr (Or.inr ⟨by omega, hso, Or.inr (Or.inr ⟨by omega, rfl, ?_, fun k hk => (a3 k (by omega)).trans (by rw [mset_ne (by omega), mset_ne (by omega), mset_ne (by omega)])⟩)⟩)
                  exact hz.on hsm (by omega) (by rw [a3 68 (by decide), mset_ne (by decide), mset_ne (by decide), mset_eq]) (by rw [a3 69 (by decide), mset_ne (by decide), mset_eq]) (by rw [a3 70 (by decide), mset_eq]) a1 (fun t ht => by rw [a3 68 (by decide), mset_ne (by decide), mset_ne (by decide), mset_nj ht]) (fun t ht => by rw [a3 69 (by decide), mset_ne (by decide), mset_nj ht, mset_ne (by decide)]) (fun t ht => by rw [a3 70 (by decide), mset_nj ht, mset_ne (by decide), mset_ne (by decide)]) (fun k hk => (a2 k (by omega)).trans (by rw [mset_ne (by decide), mset_ne (by decide), mset_ne (by decide)]))
                · have c80 := nI_gt' (by omega) (by omega) c_80
                  refine g_iload_n (pc := 83) dX8_sheet_83 rfl ?_
                  refine g_if_lt (pc := 84) (tgt := 106) dX8_sheet_84 (by decide) (fun c_84 => absurd c_84 c_22) (fun c_84 => ?_)
                  refine g_aload_n (pc := 87) dX8_sheet_87 rfl ?_
                  refine a_getr (pc := 88) (q := 71) fl_X8_63 dX8_sheet_88 (by first | rfl | assumption) rfl rfl ?_
                  refine g_bipush (pc := 91) (v := (nI 40)) dX8_sheet_91 (by decide) ?_
                  refine g_iload_n (pc := 93) dX8_sheet_93 rfl ?_
                  refine v_imul (pc := 94) dX8_sheet_94 (pk_mul 40 a) ?_
                  refine g_iload (pc := 95) dX8_sheet_95 rfl ?_
                  refine v_iadd (pc := 97) dX8_sheet_97 (nI_add _ i) ?_
                  refine g_iconst (pc := 98) (v := (nI 0)) dX8_sheet_98 (by decide) ?_
                  refine a_iast (pc := 99) dX8_sheet_99 (by first | rfl | assumption) rfl (by omega) ?_
                  refine a_iinc4 (pc := 100) dX8_sheet_100 (inc1 i) (by decide) rfl ?_
                  refine g_goto (pc := 103) (tgt := 77) dX8_sheet_103 (by decide) ?_
                  obtain ⟨a1, a2, a3⟩ := hν
                  refine ih (m - (i + 1)) (by omega) (i + 1) (by omega) _ ⟨fun j hj => ?_, fun k hk => (mset_nj (by omega)).trans (a2 k hk), fun c hc => (mset_ne hc).trans (a3 c hc)⟩ rfl
                  by_cases hji : j = i
                  · subst hji
                    exact mset_eq
                  · rw [mset_nj (by omega)]
                    exact a1 j (by omega)
            exact lp77 _ 0 (Nat.zero_le _) _ ⟨fun j hj => absurd hj (Nat.not_lt_zero j), fun _ _ => rfl, fun _ _ => rfl⟩ rfl
          · have c51 : n < 0 := Int32.not_le.mp c_39
            refine g_bipush (pc := 42) (v := (-14)) dX8_sheet_42 (by decide) ?_
            refine g_ireturn (pc := 44) dX8_sheet_44 rfl (by first | rfl | decide) rfl ⟨_, rfl, ?_⟩
            exact Or.inr (Or.inr ⟨by omega, hso, Or.inr (Or.inl ⟨c51, rfl, rfl⟩)⟩)
        · have c44 : 40 < nx n ∧ ¬ n < 0 := by
            have hp : ¬ n < 0 := fun h => c_28 (Int32.le_of_lt (Int32.lt_trans h (by decide)))
            obtain ⟨h1, h2⟩ := nx_of hp
            rw [h1] at c_28
            exact ⟨nI_gt' h2 (by decide) c_28, hp⟩
          refine g_bipush (pc := 31) (v := (-2)) dX8_sheet_31 (by decide) ?_
          refine g_ireturn (pc := 33) dX8_sheet_33 rfl (by first | rfl | decide) rfl ⟨_, rfl, ?_⟩
          exact Or.inr (Or.inr ⟨by omega, hso, Or.inl ⟨c44.2, c44.1, rfl, rfl⟩⟩)
theorem c_X8_cell (zs : Nat → Int32) (zn : Nat → Nat) (zi : Nat → Nat → Int32) (μ : Mem) (hz : ZMs μ zs zn zi) (s i x : Int32) : CA eI yX8_cell cX8_cell 4 (some .int) 2 [.ref 57, .int s, .int i, .int x] μ (fun r μ1 => (¬ nx s < 4 ∧ r = -2 ∧ μ1 = μ) ∨ (nx s < 4 ∧ zs (nx s) = -1 ∧ r = -11 ∧ μ1 = μ) ∨ (nx s < 4 ∧ ¬ zs (nx s) = -1 ∧ ¬ nx i < zn (nx s) ∧ r = -12 ∧ μ1 = μ) ∨ (nx s < 4 ∧ ¬ zs (nx s) = -1 ∧ nx i < zn (nx s) ∧ r = nI 1 ∧ ZMs μ1 zs zn (updN zi (nx s) (updN (zi (nx s)) (nx i) (zcv (zs (nx s)) x))) ∧ SFm μ μ1)) := by
  refine CT.of false (by decide) (by decide) (L := [some (.ref 57), some (.int s), some (.int i), some (.int x)]) rfl (Nat.le_of_ble_eq_true rfl) ?_
  refine g_iload_n (pc := 0) dX8_cell_0 rfl ?_
  refine a_cs1i (pc := 1) (c_X8_isSheet s μ) m_X8_isSheet ml_X8_270 (by omega) (Nat.le_of_ble_eq_true rfl) dX8_cell_1 (fun x_1 μ_1 h_1 => ?_)
  obtain ⟨hm_1, hd_1⟩ := h_1
  have hm_1 := hm_1.symm
  subst hm_1
  refine g_if_ne (pc := 4) (tgt := 10) dX8_cell_4 (by decide) (fun c_4 => ?_) (fun c_4 => ?_)
  · have c4 := (hd_1.resolve_right (fun q => c_4 q.1)).2
    have e_a := nx_lt c4 (by omega)
    generalize j_a : nx s = a at e_a c4
    subst e_a
    refine g_aload_n (pc := 10) dX8_cell_10 rfl ?_
    refine a_getr (pc := 11) (q := 68) fl_X8_53 dX8_cell_11 (by first | rfl | assumption) rfl rfl ?_
    refine g_iload_n (pc := 14) dX8_cell_14 rfl ?_
    obtain ⟨b68, hb68⟩ : ∃ b, μ 68 a = b := ⟨_, rfl⟩
    refine v_zald (pc := 15) dX8_cell_15 (by first | rfl | assumption) rfl (by omega) hb68 ?_
    refine g_if_ne (pc := 16) (tgt := 22) dX8_cell_16 (by decide) (fun c_16 => ?_) (fun c_16 => ?_)
    · obtain ⟨-, z1, z2, z3, z4, z5⟩ := (hz a c4).resolve_left (fun q => c_16 (by rw [← hb68, q.1]; rfl))
      refine g_iload_n (pc := 22) dX8_cell_22 rfl ?_
      refine g_i2l (pc := 23) dX8_cell_23 rfl ?_
      refine g_lconst (pc := 24) (v := 0) dX8_cell_24 (by decide) ?_
      refine g_aload_n (pc := 25) dX8_cell_25 rfl ?_
      refine a_getr (pc := 26) (q := 70) fl_X8_60 dX8_cell_26 (by first | rfl | assumption) rfl rfl ?_
      refine g_iload_n (pc := 29) dX8_cell_29 rfl ?_
      refine v_iald (pc := 30) dX8_cell_30 (by first | rfl | assumption) rfl (by omega) z3 ?_
      refine g_iconst (pc := 31) (v := (nI 1)) dX8_cell_31 (by decide) ?_
      refine v_isub (pc := 32) dX8_cell_32 rfl ?_
      refine g_i2l (pc := 33) dX8_cell_33 rfl ?_
      refine a_cs3i (pc := 34) (c_X8_in i.toInt64 0 (nI (zn a) - nI 1).toInt64 μ) m_X8_in ml_X8_76 (by omega) (Nat.le_of_ble_eq_true rfl) dX8_cell_34 (fun x_34 μ_34 h_34 => ?_)
      obtain ⟨hm_34, hd_34⟩ := h_34
      have hm_34 := hm_34.symm
      subst hm_34
      rw [in_p (x := i) (y := 0) rfl (by omega)] at hd_34
      refine g_if_ne (pc := 37) (tgt := 43) dX8_cell_37 (by decide) (fun c_37 => ?_) (fun c_37 => ?_)
      · have c37 := (hd_34.resolve_right (fun q => c_37 q.1)).2
        have e_m := nx_lt c37 (by omega)
        generalize j_m : nx i = m at e_m c37
        subst e_m
        refine g_aload_n (pc := 43) dX8_cell_43 rfl ?_
        refine a_getr (pc := 44) (q := 71) fl_X8_63 dX8_cell_44 (by first | rfl | assumption) rfl rfl ?_
        refine g_bipush (pc := 47) (v := (nI 40)) dX8_cell_47 (by decide) ?_
        refine g_iload_n (pc := 49) dX8_cell_49 rfl ?_
        refine v_imul (pc := 50) dX8_cell_50 (pk_mul 40 a) ?_
        refine g_iload_n (pc := 51) dX8_cell_51 rfl ?_
        refine v_iadd (pc := 52) dX8_cell_52 (nI_add _ m) ?_
        refine g_aload_n (pc := 53) dX8_cell_53 rfl ?_
        refine a_getr (pc := 54) (q := 69) fl_X8_57 dX8_cell_54 (by first | rfl | assumption) rfl rfl ?_
        refine g_iload_n (pc := 57) dX8_cell_57 rfl ?_
        refine v_iald (pc := 58) dX8_cell_58 (by first | rfl | assumption) rfl (by omega) z2 ?_
        refine g_if_ne (pc := 59) (tgt := 67) dX8_cell_59 (by decide) (fun c_59 => ?_) (fun c_59 => ?_)
        · have c59 : ¬ zs a = nI 0 := c_59
          refine g_aload_n (pc := 67) dX8_cell_67 rfl ?_
          refine a_getr (pc := 68) (q := 69) fl_X8_57 dX8_cell_68 (by first | rfl | assumption) rfl rfl ?_
          refine g_iload_n (pc := 71) dX8_cell_71 rfl ?_
          refine v_iald (pc := 72) dX8_cell_72 (by first | rfl | assumption) rfl (by omega) z2 ?_
          refine g_iconst (pc := 73) (v := (nI 1)) dX8_cell_73 (by decide) ?_
          refine g_icmp_ne (pc := 74) (tgt := 82) dX8_cell_74 (by decide) (fun c_74 => ?_) (fun c_74 => ?_)
          · refine g_iload_n (pc := 82) dX8_cell_82 rfl ?_
            refine a_iast (pc := 83) dX8_cell_83 (by first | rfl | assumption) rfl (by omega) ?_
            refine g_iconst (pc := 84) (v := (nI 1)) dX8_cell_84 (by decide) ?_
            refine g_ireturn (pc := 85) dX8_cell_85 rfl (by first | rfl | decide) rfl ⟨_, rfl, ?_⟩
            refine Or.inr (Or.inr (Or.inr ⟨by omega, z1, c37, rfl, ?_, fun k hk => mset_ne (by omega)⟩))
            refine hz.items (fun k hk => mset_ne hk) (fun t ht q5 q6 j hj => ?_)
            by_cases hta : t = a
            · subst hta
              rw [updN_eq]
              by_cases hjm : j = m
              · subst hjm
                rw [mset_eq, updN_eq]
                first | exact (zcv0 (by rw [c59]; decide) c59).symm | exact (zcv1 c_74).symm | exact (zcv2 c_74 c59).symm
              · rw [mset_nj (by omega), updN_ne _ _ hjm]
                exact q6 j hj
            · rw [mset_nj (by omega), updN_ne _ _ hta]
              exact q6 j hj
          · refine g_iload_n (pc := 77) dX8_cell_77 rfl ?_
            refine g_i2s (pc := 78) dX8_cell_78 rfl ?_
            refine g_goto (pc := 79) (tgt := 83) dX8_cell_79 (by decide) ?_
            refine a_iast (pc := 83) dX8_cell_83 (by first | rfl | assumption) rfl (by omega) ?_
            refine g_iconst (pc := 84) (v := (nI 1)) dX8_cell_84 (by decide) ?_
            refine g_ireturn (pc := 85) dX8_cell_85 rfl (by first | rfl | decide) rfl ⟨_, rfl, ?_⟩
            refine Or.inr (Or.inr (Or.inr ⟨by omega, z1, c37, rfl, ?_, fun k hk => mset_ne (by omega)⟩))
            refine hz.items (fun k hk => mset_ne hk) (fun t ht q5 q6 j hj => ?_)
            by_cases hta : t = a
            · subst hta
              rw [updN_eq]
              by_cases hjm : j = m
              · subst hjm
                rw [mset_eq, updN_eq]
                first | exact (zcv0 (by rw [c59]; decide) c59).symm | exact (zcv1 c_74).symm | exact (zcv2 c_74 c59).symm
              · rw [mset_nj (by omega), updN_ne _ _ hjm]
                exact q6 j hj
            · rw [mset_nj (by omega), updN_ne _ _ hta]
              exact q6 j hj
        · have c59 : zs a = nI 0 := c_59
          refine g_iload_n (pc := 62) dX8_cell_62 rfl ?_
          refine g_i2b (pc := 63) dX8_cell_63 rfl ?_
          refine g_goto (pc := 64) (tgt := 83) dX8_cell_64 (by decide) ?_
          refine a_iast (pc := 83) dX8_cell_83 (by first | rfl | assumption) rfl (by omega) ?_
          refine g_iconst (pc := 84) (v := (nI 1)) dX8_cell_84 (by decide) ?_
          refine g_ireturn (pc := 85) dX8_cell_85 rfl (by first | rfl | decide) rfl ⟨_, rfl, ?_⟩
          refine Or.inr (Or.inr (Or.inr ⟨by omega, z1, c37, rfl, ?_, fun k hk => mset_ne (by omega)⟩))
          refine hz.items (fun k hk => mset_ne hk) (fun t ht q5 q6 j hj => ?_)
          by_cases hta : t = a
          · subst hta
            rw [updN_eq]
            by_cases hjm : j = m
            · subst hjm
              rw [mset_eq, updN_eq]
              first | exact (zcv0 (by rw [c59]; decide) c59).symm | exact (zcv1 c_74).symm | exact (zcv2 c_74 c59).symm
            · rw [mset_nj (by omega), updN_ne _ _ hjm]
              exact q6 j hj
          · rw [mset_nj (by omega), updN_ne _ _ hta]
            exact q6 j hj
      · have c37 := (hd_34.resolve_left (fun q => absurd (q.1.symm.trans c_37) (by decide))).2
        refine g_bipush (pc := 40) (v := (-12)) dX8_cell_40 (by decide) ?_
        refine g_ireturn (pc := 42) dX8_cell_42 rfl (by first | rfl | decide) rfl ⟨_, rfl, ?_⟩
        exact Or.inr (Or.inr (Or.inl ⟨by omega, z1, c37, rfl, rfl⟩))
    · have z1 := ((hz a c4).resolve_right (fun q => by rw [← hb68, q.1] at c_16; exact absurd c_16 (by decide))).2
      refine g_bipush (pc := 19) (v := (-11)) dX8_cell_19 (by decide) ?_
      refine g_ireturn (pc := 21) dX8_cell_21 rfl (by first | rfl | decide) rfl ⟨_, rfl, ?_⟩
      exact Or.inr (Or.inl ⟨by omega, z1, rfl, rfl⟩)
  · have c4 := (hd_1.resolve_left (fun q => absurd (q.1.symm.trans c_4) (by decide))).2
    refine g_bipush (pc := 7) (v := (-2)) dX8_cell_7 (by decide) ?_
    refine g_ireturn (pc := 9) dX8_cell_9 rfl (by first | rfl | decide) rfl ⟨_, rfl, ?_⟩
    exact Or.inl ⟨c4, rfl, rfl⟩
theorem c_X8_over (k : Nat) (hk : k < 6) (μ : Mem) : CA eI yX8_over cX8_over 1 (some .int) 0 [.int (nI k)] μ (fun r μ1 => r = kV (kUp k) ∧ μ1 = μ) := by
  refine CT.of false (by decide) (by decide) (L := [some (.int (nI k))]) rfl (Nat.le_of_ble_eq_true rfl) ?_
  refine g_iload_n (pc := 0) dX8_over_0 rfl ?_
  refine g_if_ne (pc := 1) (tgt := 8) dX8_over_1 (by decide) (fun c_1 => ?_) (fun c_1 => ?_)
  · have c1 : ¬ k = 0 := fun h => c_1 (by rw [h]; rfl)
    refine g_iload_n (pc := 8) dX8_over_8 rfl ?_
    refine g_iconst (pc := 9) (v := (nI 3)) dX8_over_9 (by decide) ?_
    refine g_icmp_ne (pc := 10) (tgt := 17) dX8_over_10 (by decide) (fun c_10 => ?_) (fun c_10 => ?_)
    · have c10 : ¬ k = 3 := fun h => c_10 (by rw [h])
      refine g_iload_n (pc := 17) dX8_over_17 rfl ?_
      refine g_iconst (pc := 18) (v := (nI 4)) dX8_over_18 (by decide) ?_
      refine g_icmp_ne (pc := 19) (tgt := 26) dX8_over_19 (by decide) (fun c_19 => ?_) (fun c_19 => ?_)
      · have c19 : ¬ k = 4 := fun h => c_19 (by rw [h])
        refine g_iconst (pc := 26) (v := (nI 0)) dX8_over_26 (by decide) ?_
        refine g_ireturn (pc := 27) dX8_over_27 rfl (by first | rfl | decide) rfl ⟨_, rfl, ?_⟩
        refine ⟨?_, rfl⟩
        first
          | (rw [c1]; rfl)
          | (rw [c10]; rfl)
          | (rw [c19]; rfl)
          | (rcases (show k = 1 ∨ k = 2 ∨ k = 5 by omega) with rfl | rfl | rfl <;> rfl)
      · have c19 : k = 4 := nI_eq' (by omega) (by omega) c_19
        refine g_iconst (pc := 22) (v := (nI 2)) dX8_over_22 (by decide) ?_
        refine g_goto (pc := 23) (tgt := 27) dX8_over_23 (by decide) ?_
        refine g_ireturn (pc := 27) dX8_over_27 rfl (by first | rfl | decide) rfl ⟨_, rfl, ?_⟩
        refine ⟨?_, rfl⟩
        first
          | (rw [c1]; rfl)
          | (rw [c10]; rfl)
          | (rw [c19]; rfl)
          | (rcases (show k = 1 ∨ k = 2 ∨ k = 5 by omega) with rfl | rfl | rfl <;> rfl)
    · have c10 : k = 3 := nI_eq' (by omega) (by omega) c_10
      refine g_iconst (pc := 13) (v := (nI 1)) dX8_over_13 (by decide) ?_
      refine g_goto (pc := 14) (tgt := 27) dX8_over_14 (by decide) ?_
      refine g_ireturn (pc := 27) dX8_over_27 rfl (by first | rfl | decide) rfl ⟨_, rfl, ?_⟩
      refine ⟨?_, rfl⟩
      first
        | (rw [c1]; rfl)
        | (rw [c10]; rfl)
        | (rw [c19]; rfl)
        | (rcases (show k = 1 ∨ k = 2 ∨ k = 5 by omega) with rfl | rfl | rfl <;> rfl)
  · have c1 : k = 0 := nI_eq' (b := 0) (by omega) (by omega) c_1
    refine g_iconst (pc := 4) (v := (-1)) dX8_over_4 (by decide) ?_
    refine g_goto (pc := 5) (tgt := 27) dX8_over_5 (by decide) ?_
    refine g_ireturn (pc := 27) dX8_over_27 rfl (by first | rfl | decide) rfl ⟨_, rfl, ?_⟩
    refine ⟨?_, rfl⟩
    first
      | (rw [c1]; rfl)
      | (rw [c10]; rfl)
      | (rw [c19]; rfl)
      | (rcases (show k = 1 ∨ k = 2 ∨ k = 5 by omega) with rfl | rfl | rfl <;> rfl)
theorem c_X8_taken (v : View) (μ : Mem) (hV : MVw μ v) (p k : Int32) : CA eI yX8_taken cX8_taken 4 (some .int) 2 [.ref 57, .int p, .int k] μ (fun r μ1 => r = takV v p k ∧ μ1 = μ) := by
  obtain ⟨⟨v1, v1b⟩, ⟨v2, v2b⟩, ⟨v3, v3b⟩, ⟨v4, v4b⟩, v5⟩ := id hV
  refine CT.of false (by decide) (by decide) (L := [some (.ref 57), some (.int p), some (.int k), none]) rfl (Nat.le_of_ble_eq_true rfl) ?_
  refine g_iload_n (pc := 0) dX8_taken_0 rfl ?_
  refine g_i2l (pc := 1) dX8_taken_1 rfl ?_
  refine g_lconst (pc := 2) (v := 0) dX8_taken_2 (by decide) ?_
  refine g_ldc2 (pc := 3) dX8_taken_3 kc_X8_101 ?_
  refine a_cs3i (pc := 6) (c_X8_in k.toInt64 0 5 μ) m_X8_in ml_X8_76 (by omega) (Nat.le_of_ble_eq_true rfl) dX8_taken_6 (fun x_6 μ_6 h_6 => ?_)
  obtain ⟨hm_6, hd_6⟩ := h_6
  have hm_6 := hm_6.symm
  subst hm_6
  rw [in_c (x := k) (y := 0) (z := 5) 0 5 rfl rfl (by decide) (by decide)] at hd_6
  refine g_if_ne (pc := 9) (tgt := 15) dX8_taken_9 (by decide) (fun c_9 => ?_) (fun c_9 => ?_)
  · have c9 := (hd_6.resolve_right (fun q => c_9 q.1)).2
    have d9 := c9.2
    have e_b := nx_lt (x := k) (n := 6) (by omega) (by decide)
    generalize j_b : nx k = b at e_b d9
    subst e_b
    refine g_aload_n (pc := 15) dX8_taken_15 rfl ?_
    refine g_iload_n (pc := 16) dX8_taken_16 rfl ?_
    refine a_cv1i (pc := 17) (c_X8_isPart p (v 0 3) (by omega) μ v4) m_X8_isPart ml_X8_82 (by omega) (by first | rfl | assumption) rfl rfl (Nat.le_of_ble_eq_true rfl) dX8_taken_17 (fun x_17 μ_17 h_17 => ?_)
    obtain ⟨hm_17, hd_17⟩ := h_17
    have hm_17 := hm_17.symm
    subst hm_17
    refine g_if_ne (pc := 20) (tgt := 26) dX8_taken_20 (by decide) (fun c_20 => ?_) (fun c_20 => ?_)
    · have c20 := (hd_17.resolve_right (fun q => c_20 q.1)).2
      have e_a := nx_lt c20 (by omega)
      generalize j_a : nx p = a at e_a c20
      subst e_a
      have hka := (v5 a c20).1.2
      refine g_aload_n (pc := 26) dX8_taken_26 rfl ?_
      refine a_getr (pc := 27) (q := 61) fl_X8_29 dX8_taken_27 (by first | rfl | assumption) rfl rfl ?_
      refine g_iload_n (pc := 30) dX8_taken_30 rfl ?_
      refine v_iald (pc := 31) dX8_taken_31 (by first | rfl | assumption) rfl (by omega) (((v5 a c20).1.1).trans (kVn (by omega)).symm) ?_
      refine a_ist3 (pc := 32) dX8_taken_32 (by decide) rfl ?_
      have lp33 : ∀ (zz : Nat) (x : Nat) (hx : x < 7) (he : kUnd x b = kUnd (v 1 a) b), kDp x = zz → WG eI yX8_taken.cls cX8_taken 4 (some .int) false (fun _ _ => True) 2 (mpost (fun r μ1 => r = takV v (nI a) (nI b) ∧ μ1 = μ)) 0 0 33 [some (.ref 57), some (.int (nI a)), some (.int (nI b)), some (.int (kV x))] [] (mk μ) := by
        intro zz
        induction zz using Nat.strongRecOn with
        | ind zz ih =>
          intro x hx he hzz
          refine g_iload_n (pc := 33) dX8_taken_33 rfl ?_
          refine g_iconst (pc := 34) (v := (-1)) dX8_taken_34 (by decide) ?_
          refine g_icmp_eq (pc := 35) (tgt := 51) dX8_taken_35 (by decide) (fun c_35 => ?_) (fun c_35 => ?_)
          · have c35 : x = 6 := by
              by_cases h : x = 6
              · exact h
              · rw [kVn h] at c_35
                exact absurd c_35 (nI_m1 (by omega))
            have hun : ¬ kUnd (v 1 a) b = true := by
              rw [← he, c35, kUnd6 b (by omega)]
              simp
            have hkk : ¬ kV x = nI b := by
              rw [c35, kV6]
              exact nI_m1' (by omega)
            refine g_iload_n (pc := 51) dX8_taken_51 rfl ?_
            refine g_iload_n (pc := 52) dX8_taken_52 rfl ?_
            refine g_icmp_ne (pc := 53) (tgt := 67) dX8_taken_53 (by decide) (fun c_53 => ?_) (fun c_53 => absurd c_53 hkk)
            refine g_bipush (pc := 67) (v := (-13)) dX8_taken_67 (by decide) ?_
            refine g_ireturn (pc := 69) dX8_taken_69 rfl (by first | rfl | decide) rfl ⟨_, rfl, ?_⟩
            refine ⟨?_, rfl⟩
            unfold takV
            rw [if_neg (by rw [j_b]; omega), if_neg (by rw [j_a]; omega), j_b, j_a]
            first | exact (if_pos hun).symm | exact (if_neg hun).symm
          · have c35 : ¬ x = 6 := fun h => c_35 (by rw [h, kV6])
            rw [kVn c35]
            obtain ⟨u1, u2, -⟩ := kDp_up x (by omega)
            refine g_iload_n (pc := 38) dX8_taken_38 rfl ?_
            refine g_iload_n (pc := 39) dX8_taken_39 rfl ?_
            refine g_icmp_eq (pc := 40) (tgt := 51) dX8_taken_40 (by decide) (fun c_40 => ?_) (fun c_40 => ?_)
            · have c40 : x = b := nI_eq' (by omega) (by omega) c_40
              have hun : kUnd (v 1 a) b = true := by
                rw [← he, c40]
                unfold kUnd
                simp
              refine g_iload_n (pc := 51) dX8_taken_51 rfl ?_
              refine g_iload_n (pc := 52) dX8_taken_52 rfl ?_
              refine g_icmp_ne (pc := 53) (tgt := 67) dX8_taken_53 (by decide) (fun c_53 => absurd c_40 c_53) (fun c_53 => ?_)
              refine g_aload_n (pc := 56) dX8_taken_56 rfl ?_
              refine a_getr (pc := 57) (q := 62) fl_X8_32 dX8_taken_57 (by first | rfl | assumption) rfl rfl ?_
              refine g_iconst (pc := 60) (v := (nI 3)) dX8_taken_60 (by decide) ?_
              refine g_iload_n (pc := 61) dX8_taken_61 rfl ?_
              refine v_imul (pc := 62) dX8_taken_62 (pk_mul 3 a) ?_
              refine v_iald (pc := 63) dX8_taken_63 (by first | rfl | assumption) rfl (by omega) (v5 a c20).2.1.1 ?_
              refine g_goto (pc := 64) (tgt := 69) dX8_taken_64 (by decide) ?_
              refine g_ireturn (pc := 69) dX8_taken_69 rfl (by first | rfl | decide) rfl ⟨_, rfl, ?_⟩
              refine ⟨?_, rfl⟩
              unfold takV
              rw [if_neg (by rw [j_b]; omega), if_neg (by rw [j_a]; omega), j_b, j_a]
              first | exact (if_pos hun).symm | exact (if_neg hun).symm
            · have c40 : ¬ x = b := fun h => c_40 (by rw [h])
              refine g_iload_n (pc := 43) dX8_taken_43 rfl ?_
              refine a_cs1i (pc := 44) (c_X8_over x (by omega) μ) m_X8_over ml_X8_340 (by omega) (Nat.le_of_ble_eq_true rfl) dX8_taken_44 (fun x_44 μ_44 h_44 => ?_)
              obtain ⟨rfl, hm_44⟩ := h_44
              have hm_44 := hm_44.symm
              subst hm_44
              refine a_ist3 (pc := 47) dX8_taken_47 (by decide) rfl ?_
              refine g_goto (pc := 48) (tgt := 33) dX8_taken_48 (by decide) ?_
              exact ih _ (by omega) (kUp x) (by omega) ((kUnd_up x (by omega) b (by omega) c40).trans he) rfl
      exact lp33 _ (v 1 a) (by omega) rfl rfl
    · have c20 := (hd_17.resolve_left (fun q => absurd (q.1.symm.trans c_20) (by decide))).2
      refine g_bipush (pc := 23) (v := (-11)) dX8_taken_23 (by decide) ?_
      refine g_ireturn (pc := 25) dX8_taken_25 rfl (by first | rfl | decide) rfl ⟨_, rfl, ?_⟩
      refine ⟨?_, rfl⟩
      unfold takV
      rw [if_neg (by rw [j_b]; omega), if_pos c20]
  · have c9 := (hd_6.resolve_left (fun q => absurd (q.1.symm.trans c_9) (by decide))).2
    refine g_bipush (pc := 12) (v := (-2)) dX8_taken_12 (by decide) ?_
    refine g_ireturn (pc := 14) dX8_taken_14 rfl (by first | rfl | decide) rfl ⟨_, rfl, ?_⟩
    refine ⟨?_, rfl⟩
    unfold takV
    rw [if_pos (by omega)]
