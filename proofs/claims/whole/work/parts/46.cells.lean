/-! ===== the class: sheets ===== -/
/-- the sheets: sorts, sizes, items -/
def ZA (μ : Mem) (zs : Nat → Int32) (zn : Nat → Nat) (zi : Nat → Nat → Int32) : Prop := ZV μ zs zn ∧ ∀ s, s < 4 → ∀ j, j < zn s → μ (53 + s) j = zi s j
theorem ZA.moved {μ μ1 : Mem} {zs : Nat → Int32} {zn : Nat → Nat} {zi : Nat → Nat → Int32} (h : ZA μ zs zn zi) (g : ∀ c, 48 < c → c < 57 → μ1 c = μ c) : ZA μ1 zs zn zi :=
  ⟨fun s hs => by rw [g 50 (by omega) (by omega), g 51 (by omega) (by omega)]; exact h.1 s hs, fun s hs j hj => by rw [g (53 + s) (by omega) (by omega)]; exact h.2 s hs j hj⟩
theorem ZA.tf {μ μ1 : Mem} {zs : Nat → Int32} {zn : Nat → Nat} {zi : Nat → Nat → Int32} (h : ZA μ zs zn zi) (g : TF μ μ1) : ZA μ1 zs zn zi := h.moved (fun c a b => g.1 c (by omega))
/-- what a change of the sheets leaves as it is -/
def TZ (μ μ1 : Mem) : Prop := (∀ c, c < 11 ∨ (15 < c ∧ c < 31) ∨ c = 33 ∨ c = 34 ∨ c = 49 ∨ c = 52 ∨ 56 < c → μ1 c = μ c) ∧ μ1 46 0 = μ 46 0 ∧ μ1 35 3 = μ 35 3
theorem TF.tz {μ μ1 : Mem} (h : TF μ μ1) : TZ μ μ1 := ⟨fun c hc => h.1 c (by omega), h.2⟩
theorem TZ.trans {μ μ1 μ2 : Mem} (h : TZ μ μ1) (g : TZ μ1 μ2) : TZ μ μ2 := ⟨fun c hc => (g.1 c hc).trans (h.1 c hc), g.2.1.trans h.2.1, g.2.2.trans h.2.2⟩
theorem XW.tz {μ μ1 : Mem} {v vk : View} {tc : Nat} {P : Nat → Nat → List Nat} (h : XW μ v vk tc P) (g : TZ μ μ1) : XW μ1 v vk tc P := by
  obtain ⟨h1, h2, ⟨h3, h31, h32⟩, h4, h5, h6, h7, h8⟩ := h
  exact ⟨h1.moved (fun k _ _ => g.1 k (by omega)), h2.moved (fun k _ _ => g.1 k (by omega)), ⟨by rw [g.1 16 (by omega)]; exact h3, h31, h32⟩, fun t ht e he => ⟨(h4 t ht e he).1.moved (g.1 _ (by omega)) (g.1 _ (by omega)), (h4 t ht e he).2⟩, h5, h6, g.2.2.trans h7, g.2.1.trans h8⟩
abbrev becZ (μ μ1 : Mem) (s : Nat) (so n : Int32) : Prop := μ1 50 s = so ∧ μ1 51 s = n ∧ (∀ j, j < 40 → μ1 (53 + s) j = nI 0) ∧ (∀ j, j ≠ s → μ1 50 j = μ 50 j) ∧ (∀ j, j ≠ s → μ1 51 j = μ 51 j) ∧ ∀ c, c ≠ 50 → c ≠ 51 → c ≠ 53 + s → μ1 c = μ c
theorem ZA.bec {μ μ1 : Mem} {zs : Nat → Int32} {zn : Nat → Nat} {zi : Nat → Nat → Int32} {s n : Nat} {so : Int32} (h : ZA μ zs zn zi) (hs : s < 4) (hn : n ≤ 40) (g : becZ μ μ1 s so (nI n)) : ZA μ1 (updN zs s so) (updN zn s n) (updN zi s (fun _ => nI 0)) ∧ TZ μ μ1 := by
  obtain ⟨g1, g2, g3, g4, g5, g6⟩ := g
  refine ⟨⟨fun t ht => ?_, fun t ht j hj => ?_⟩, fun c hc => g6 c (by omega) (by omega) (by omega), congrFun (g6 46 (by omega) (by omega) (by omega)) 0, congrFun (g6 35 (by omega) (by omega) (by omega)) 3⟩
  · by_cases hts : t = s
    · subst hts
      rw [updN_eq, updN_eq]
      exact ⟨g1, g2, hn⟩
    · rw [updN_ne zs so hts, updN_ne zn n hts, g4 t hts, g5 t hts]
      exact h.1 t ht
  · by_cases hts : t = s
    · subst hts
      rw [updN_eq] at hj ⊢
      exact g3 j (by omega)
    · rw [updN_ne zn n hts] at hj
      rw [updN_ne zi _ hts, g6 (53 + t) (by omega) (by omega) (by omega)]
      exact h.2 t ht j hj
theorem c_X4_become (μ : Mem) (s : Nat) (hs : s < 4) (so n : Int32) : CA eV yX4_become cX4_become 4 none 1 [.ref 49, .int (nI s), .int so, .int n] μ (fun _ μ1 => becZ μ μ1 s so n) := by
  refine CT.of false (by decide) (by decide) (L := [some (.ref 49), some (.int (nI s)), some (.int so), some (.int n)]) rfl (Nat.le_of_ble_eq_true rfl) ?_
  refine g_aload_n (pc := 0) dX4_become_0 rfl ?_
  refine a_getr (pc := 1) (q := 50) fl_X4_9 dX4_become_1 (by first | rfl | assumption) rfl rfl ?_
  refine g_iload_n (pc := 4) dX4_become_4 rfl ?_
  refine g_iload_n (pc := 5) dX4_become_5 rfl ?_
  refine a_iast (pc := 6) dX4_become_6 (by first | rfl | assumption) rfl (by omega) ?_
  refine g_aload_n (pc := 7) dX4_become_7 rfl ?_
  refine a_getr (pc := 8) (q := 51) fl_X4_13 dX4_become_8 (by first | rfl | assumption) rfl rfl ?_
  refine g_iload_n (pc := 11) dX4_become_11 rfl ?_
  refine g_iload_n (pc := 12) dX4_become_12 rfl ?_
  refine a_iast (pc := 13) dX4_become_13 (by first | rfl | assumption) rfl (by first | decide | assumption | omega) ?_
  refine g_aload_n (pc := 14) dX4_become_14 rfl ?_
  refine a_getr (pc := 15) (q := 52) fl_X4_18 dX4_become_15 (by first | rfl | assumption) rfl rfl ?_
  refine g_iload_n (pc := 18) dX4_become_18 rfl ?_
  refine v_aald (pc := 19) dX4_become_19 (by first | rfl | assumption) rfl (by omega) (show 52 + 1 + s = 53 + s by omega) ?_
  refine g_iconst (pc := 20) (v := (nI 0)) dX4_become_20 (by decide) ?_
  refine a_cs2v (pc := 21) (c_J7_fill (53 + s) 40 (shS s hs) (nI 0) _) m_J7_fill_53178 ml_X4_21 (by omega) (Nat.le_of_ble_eq_true rfl) dX4_become_21 (fun x_21 μ_21 h_21 => ?_)
  obtain ⟨l1, l2⟩ := h_21
  refine g_return (pc := 24) (x := ()) dX4_become_24 rfl rfl ⟨_, rfl, ?_⟩
  exact ⟨by rw [l2 50 (by omega), mset_ne (by omega), mset_eq], by rw [l2 51 (by omega), mset_eq], l1, fun j hj => by rw [l2 50 (by omega), mset_ne (by omega), mset_nj hj], fun j hj => by rw [l2 51 (by omega), mset_nj hj, mset_ne (by omega)], fun c a b d => by rw [l2 c d, mset_ne b, mset_ne a]⟩
def zcv (so x : Int32) : Int32 := if so = nI 1 then x.toInt16.toInt32 else if so = nI 0 then x.toInt8.toInt32 else x
theorem zcv1 {so x : Int32} (h : so = nI 1) : zcv so x = x.toInt16.toInt32 := if_pos h
theorem zcv0 {so x : Int32} (h : ¬ so = nI 1) (h0 : so = nI 0) : zcv so x = x.toInt8.toInt32 := (if_neg h).trans (if_pos h0)
theorem zcv2 {so x : Int32} (h : ¬ so = nI 1) (h0 : ¬ so = nI 0) : zcv so x = x := (if_neg h).trans (if_neg h0)
theorem c_X4_put (μ : Mem) (zs : Nat → Int32) (zn : Nat → Nat) (hz : ZV μ zs zn) (s : Nat) (hs : s < 4) (j : Nat) (hj : j < 40) (x : Int32) : CA eV yX4_put cX4_put 5 none 0 [.ref 49, .int (nI s), .int (nI j), .int x] μ (fun _ μ1 => μ1 = mset μ (53 + s) j (zcv (zs s) x)) := by
  obtain ⟨z1, z2, z3⟩ := hz s hs
  have hsh := shS s hs
  refine CT.of false (by decide) (by decide) (L := [some (.ref 49), some (.int (nI s)), some (.int (nI j)), some (.int x), none]) rfl (Nat.le_of_ble_eq_true rfl) ?_
  refine g_aload_n (pc := 0) dX4_put_0 rfl ?_
  refine a_getr (pc := 1) (q := 50) fl_X4_9 dX4_put_1 (by first | rfl | assumption) rfl rfl ?_
  refine g_iload_n (pc := 4) dX4_put_4 rfl ?_
  refine v_iald (pc := 5) dX4_put_5 (by first | rfl | assumption) rfl (by omega) z1 ?_
  refine g_if_ne (pc := 6) (tgt := 14) dX4_put_6 (by decide) (fun c_6 => ?_) (fun c_6 => ?_)
  · refine g_iload_n (pc := 14) dX4_put_14 rfl ?_
    refine a_ist4 (pc := 15) dX4_put_15 (by decide) rfl ?_
    refine g_aload_n (pc := 17) dX4_put_17 rfl ?_
    refine a_getr (pc := 18) (q := 52) fl_X4_18 dX4_put_18 (by first | rfl | assumption) rfl rfl ?_
    refine g_iload_n (pc := 21) dX4_put_21 rfl ?_
    refine v_aald (pc := 22) dX4_put_22 (by first | rfl | assumption) rfl (by first | decide | assumption | omega) rfl ?_
    refine g_iload_n (pc := 23) dX4_put_23 rfl ?_
    refine g_aload_n (pc := 24) dX4_put_24 rfl ?_
    refine a_getr (pc := 25) (q := 50) fl_X4_9 dX4_put_25 (by first | rfl | assumption) rfl rfl ?_
    refine g_iload_n (pc := 28) dX4_put_28 rfl ?_
    refine v_iald (pc := 29) dX4_put_29 (by first | rfl | assumption) rfl (by omega) z1 ?_
    refine g_iconst (pc := 30) (v := (nI 1)) dX4_put_30 (by decide) ?_
    refine g_icmp_ne (pc := 31) (tgt := 39) dX4_put_31 (by decide) (fun c_31 => ?_) (fun c_31 => ?_)
    · refine g_iload (pc := 39) dX4_put_39 rfl ?_
      refine a_iast (pc := 41) dX4_put_41 (by first | rfl | assumption) rfl hj ?_
      refine g_return (pc := 42) (x := ()) dX4_put_42 rfl rfl ⟨_, rfl, ?_⟩
      first | exact congrArg (mset μ (53 + s) j) (zcv1 c_31).symm | exact congrArg (mset μ (53 + s) j) (zcv0 c_31 c_6).symm | exact congrArg (mset μ (53 + s) j) (zcv2 c_31 c_6).symm
    · refine g_iload_n (pc := 34) dX4_put_34 rfl ?_
      refine g_i2s (pc := 35) dX4_put_35 rfl ?_
      refine g_goto (pc := 36) (tgt := 41) dX4_put_36 (by decide) ?_
      refine a_iast (pc := 41) dX4_put_41 (by first | rfl | assumption) rfl hj ?_
      refine g_return (pc := 42) (x := ()) dX4_put_42 rfl rfl ⟨_, rfl, ?_⟩
      first | exact congrArg (mset μ (53 + s) j) (zcv1 c_31).symm | exact congrArg (mset μ (53 + s) j) (zcv0 c_31 c_6).symm | exact congrArg (mset μ (53 + s) j) (zcv2 c_31 c_6).symm
  · refine g_iload_n (pc := 9) dX4_put_9 rfl ?_
    refine g_i2b (pc := 10) dX4_put_10 rfl ?_
    refine g_goto (pc := 11) (tgt := 15) dX4_put_11 (by decide) ?_
    refine a_ist4 (pc := 15) dX4_put_15 (by decide) rfl ?_
    refine g_aload_n (pc := 17) dX4_put_17 rfl ?_
    refine a_getr (pc := 18) (q := 52) fl_X4_18 dX4_put_18 (by first | rfl | assumption) rfl rfl ?_
    refine g_iload_n (pc := 21) dX4_put_21 rfl ?_
    refine v_aald (pc := 22) dX4_put_22 (by first | rfl | assumption) rfl (by first | decide | assumption | omega) rfl ?_
    refine g_iload_n (pc := 23) dX4_put_23 rfl ?_
    refine g_aload_n (pc := 24) dX4_put_24 rfl ?_
    refine a_getr (pc := 25) (q := 50) fl_X4_9 dX4_put_25 (by first | rfl | assumption) rfl rfl ?_
    refine g_iload_n (pc := 28) dX4_put_28 rfl ?_
    refine v_iald (pc := 29) dX4_put_29 (by first | rfl | assumption) rfl (by omega) z1 ?_
    refine g_iconst (pc := 30) (v := (nI 1)) dX4_put_30 (by decide) ?_
    refine g_icmp_ne (pc := 31) (tgt := 39) dX4_put_31 (by decide) (fun c_31 => ?_) (fun c_31 => ?_)
    · refine g_iload (pc := 39) dX4_put_39 rfl ?_
      refine a_iast (pc := 41) dX4_put_41 (by first | rfl | assumption) rfl hj ?_
      refine g_return (pc := 42) (x := ()) dX4_put_42 rfl rfl ⟨_, rfl, ?_⟩
      first | exact congrArg (mset μ (53 + s) j) (zcv1 c_31).symm | exact congrArg (mset μ (53 + s) j) (zcv0 c_31 c_6).symm | exact congrArg (mset μ (53 + s) j) (zcv2 c_31 c_6).symm
    · refine g_iload_n (pc := 34) dX4_put_34 rfl ?_
      refine g_i2s (pc := 35) dX4_put_35 rfl ?_
      refine g_goto (pc := 36) (tgt := 41) dX4_put_36 (by decide) ?_
      refine a_iast (pc := 41) dX4_put_41 (by first | rfl | assumption) rfl hj ?_
      refine g_return (pc := 42) (x := ()) dX4_put_42 rfl rfl ⟨_, rfl, ?_⟩
      first | exact congrArg (mset μ (53 + s) j) (zcv1 c_31).symm | exact congrArg (mset μ (53 + s) j) (zcv0 c_31 c_6).symm | exact congrArg (mset μ (53 + s) j) (zcv2 c_31 c_6).symm
theorem m1_lem {x : Int32} (h : ¬ x < -1) (h1 : ¬ x = -1) : ¬ x < 0 := by
  intro h2
  apply h1
  rw [Int32.lt_iff_toInt_lt] at h h2
  have e1 : (-1 : Int32).toInt = -1 := by decide
  have e0 : (0 : Int32).toInt = 0 := by decide
  rw [e1] at h
  rw [e0] at h2
  apply Int32.toInt_inj.mp
  rw [e1]
  omega
abbrev sheetA (s so : Int32) : Prop := nx s < 4 ∧ (so = -1 ∨ nx so ≤ 2)
theorem nx_m1 : nx (-1) = 1000000 := by decide
theorem c_X7_sheet (μ : Mem) (zs : Nat → Int32) (zn : Nat → Nat) (zi : Nat → Nat → Int32) (hz : ZA μ zs zn zi) (s so n : Int32) : CA eI yX7_sheet cX7_sheet 4 (some .int) 2 [.ref 0, .int s, .int so, .int n] μ (fun r μ1 => (¬ sheetA s so ∧ r = -2 ∧ μ1 = μ) ∨ (nx s < 4 ∧ so = -1 ∧ r = nI 1 ∧ ZA μ1 (updN zs (nx s) (-1)) zn zi ∧ TZ μ μ1) ∨ (nx s < 4 ∧ nx so ≤ 2 ∧ ((¬ n < 0 ∧ 40 < nx n ∧ r = -2 ∧ μ1 = μ) ∨ (n < 0 ∧ r = -14 ∧ μ1 = μ) ∨ (nx n ≤ 40 ∧ r = nI 1 ∧ ZA μ1 (updN zs (nx s) so) (updN zn (nx s) (nx n)) (updN zi (nx s) (fun _ => nI 0)) ∧ TZ μ μ1)))) := by
  refine CT.of false (by decide) (by decide) (L := [some (.ref 0), some (.int s), some (.int so), some (.int n)]) rfl (Nat.le_of_ble_eq_true rfl) ?_
  refine g_aload_n (pc := 0) dX7_sheet_0 rfl ?_
  refine a_getr (pc := 1) (q := 49) fl_X7_57 dX7_sheet_1 (by first | rfl | assumption) rfl rfl ?_
  refine g_iload_n (pc := 4) dX7_sheet_4 rfl ?_
  refine a_cv1i (pc := 5) (c_X4_has μ s) m_X4_has ml_X7_158 (by omega) (by first | rfl | assumption) rfl rfl (Nat.le_of_ble_eq_true rfl) dX7_sheet_5 (fun x_5 μ_5 h_5 => ?_)
  obtain ⟨hm_5, hd_5⟩ := h_5
  have hm_5 := hm_5.symm
  subst hm_5
  rw [has_nx (by omega)] at hd_5
  refine g_if_eq (pc := 8) (tgt := 21) dX7_sheet_8 (by decide) (fun c_8 => ?_) (fun c_8 => ?_)
  · have c8 := (hd_5.resolve_left (fun q => absurd (q.1.symm.trans c_8) (by decide))).2
    have hno : ¬ sheetA s so := fun h => c8 h.1
    refine g_bipush (pc := 21) (v := (-2)) dX7_sheet_21 (by decide) ?_
    refine g_ireturn (pc := 23) dX7_sheet_23 rfl (by first | rfl | decide) rfl ⟨_, rfl, ?_⟩
    exact Or.inl ⟨hno, rfl, rfl⟩
  · have c8 := (hd_5.resolve_right (fun q => c_8 q.1)).2
    have e_a := nx_lt c8 (by omega)
    generalize j_a : nx s = a at e_a c8
    subst e_a
    refine g_iload_n (pc := 11) dX7_sheet_11 rfl ?_
    refine g_iconst (pc := 12) (v := (-1)) dX7_sheet_12 (by decide) ?_
    refine g_icmp_lt (pc := 13) (tgt := 21) dX7_sheet_13 (by decide) (fun c_13 => ?_) (fun c_13 => ?_)
    · have hno : ¬ sheetA (nI a) so := fun ⟨h1, h2⟩ => by
        rcases h2 with h2 | h2
        · rw [h2] at c_13
          exact absurd c_13 (by decide)
        · have h3 := nx_lt (x := so) (n := 3) (by omega) (by decide)
          rw [h3] at c_13
          exact nI_pos (show nx so < 2 ^ 31 by omega) (Int32.lt_trans c_13 (by decide))
      refine g_bipush (pc := 21) (v := (-2)) dX7_sheet_21 (by decide) ?_
      refine g_ireturn (pc := 23) dX7_sheet_23 rfl (by first | rfl | decide) rfl ⟨_, rfl, ?_⟩
      exact Or.inl ⟨hno, rfl, rfl⟩
    · refine g_iload_n (pc := 16) dX7_sheet_16 rfl ?_
      refine g_iconst (pc := 17) (v := (nI 2)) dX7_sheet_17 (by decide) ?_
      refine g_icmp_le (pc := 18) (tgt := 24) dX7_sheet_18 (by decide) (fun c_18 => ?_) (fun c_18 => ?_)
      · refine g_iload_n (pc := 24) dX7_sheet_24 rfl ?_
        refine g_iconst (pc := 25) (v := (-1)) dX7_sheet_25 (by decide) ?_
        refine g_icmp_ne (pc := 26) (tgt := 41) dX7_sheet_26 (by decide) (fun c_26 => ?_) (fun c_26 => ?_)
        · have c26 := m1_lem c_13 c_26
          have hso : nx so ≤ 2 := by
            obtain ⟨h1, h2⟩ := nx_of c26
            have h3 := c_18
            rw [h1] at h3
            exact nI_le' h2 (by decide) h3
          refine g_iload_n (pc := 41) dX7_sheet_41 rfl ?_
          refine g_bipush (pc := 42) (v := (nI 40)) dX7_sheet_42 (by decide) ?_
          refine g_icmp_le (pc := 44) (tgt := 50) dX7_sheet_44 (by decide) (fun c_44 => ?_) (fun c_44 => ?_)
          · refine g_iload_n (pc := 50) dX7_sheet_50 rfl ?_
            refine g_if_ge (pc := 51) (tgt := 57) dX7_sheet_51 (by decide) (fun c_51 => ?_) (fun c_51 => ?_)
            · have c51 : ¬ n < 0 := Int32.not_lt.mpr c_51
              obtain ⟨e_m, b_m⟩ := nx_of c51
              have c44 : nx n ≤ 40 := by
                have h3 := c_44
                rw [e_m] at h3
                exact nI_le' b_m (by decide) h3
              refine g_aload_n (pc := 57) dX7_sheet_57 rfl ?_
              refine a_getr (pc := 58) (q := 49) fl_X7_57 dX7_sheet_58 (by first | rfl | assumption) rfl rfl ?_
              refine g_iload_n (pc := 61) dX7_sheet_61 rfl ?_
              refine g_iload_n (pc := 62) dX7_sheet_62 rfl ?_
              refine g_iload_n (pc := 63) dX7_sheet_63 rfl ?_
              refine a_cv3v (pc := 64) (c_X4_become μ a c8 so n) m_X4_become ml_X7_208 (by omega) (by first | rfl | assumption) rfl rfl (Nat.le_of_ble_eq_true rfl) dX7_sheet_64 (fun x_64 μ_64 h_64 => ?_)
              rw [e_m] at h_64
              obtain ⟨z64, f64⟩ := hz.bec c8 c44 h_64
              refine g_iconst (pc := 67) (v := (nI 1)) dX7_sheet_67 (by decide) ?_
              refine g_ireturn (pc := 68) dX7_sheet_68 rfl (by first | rfl | decide) rfl ⟨_, rfl, ?_⟩
              exact Or.inr (Or.inr ⟨c8, hso, Or.inr (Or.inr ⟨c44, rfl, z64, f64⟩)⟩)
            · have c51 : n < 0 := Int32.not_le.mp c_51
              refine g_bipush (pc := 54) (v := (-14)) dX7_sheet_54 (by decide) ?_
              refine g_ireturn (pc := 56) dX7_sheet_56 rfl (by first | rfl | decide) rfl ⟨_, rfl, ?_⟩
              exact Or.inr (Or.inr ⟨c8, hso, Or.inr (Or.inl ⟨c51, rfl, rfl⟩)⟩)
          · have c44 : 40 < nx n ∧ ¬ n < 0 := by
              have hp : ¬ n < 0 := fun h => c_44 (Int32.le_of_lt (Int32.lt_trans h (by decide)))
              obtain ⟨h1, h2⟩ := nx_of hp
              rw [h1] at c_44
              exact ⟨nI_gt' h2 (by decide) c_44, hp⟩
            refine g_bipush (pc := 47) (v := (-2)) dX7_sheet_47 (by decide) ?_
            refine g_ireturn (pc := 49) dX7_sheet_49 rfl (by first | rfl | decide) rfl ⟨_, rfl, ?_⟩
            exact Or.inr (Or.inr ⟨c8, hso, Or.inl ⟨c44.2, c44.1, rfl, rfl⟩⟩)
        · refine g_aload_n (pc := 29) dX7_sheet_29 rfl ?_
          refine a_getr (pc := 30) (q := 49) fl_X7_57 dX7_sheet_30 (by first | rfl | assumption) rfl rfl ?_
          refine a_getr (pc := 33) (q := 50) fl_X7_236 dX7_sheet_33 (by first | rfl | assumption) rfl rfl ?_
          refine g_iload_n (pc := 36) dX7_sheet_36 rfl ?_
          refine g_iconst (pc := 37) (v := (-1)) dX7_sheet_37 (by decide) ?_
          refine a_iast (pc := 38) dX7_sheet_38 (by first | rfl | assumption) rfl (by omega) ?_
          refine g_iconst (pc := 39) (v := (nI 1)) dX7_sheet_39 (by decide) ?_
          refine g_ireturn (pc := 40) dX7_sheet_40 rfl (by first | rfl | decide) rfl ⟨_, rfl, ?_⟩
          refine Or.inr (Or.inl ⟨c8, c_26, rfl, ⟨fun t ht => ?_, fun t ht j hj => ?_⟩, fun c hc => mset_ne (by omega), congrFun (mset_ne (by omega)) 0, congrFun (mset_ne (by omega)) 3⟩)
          · rw [mset_ne (k' := 51) (by omega)]
            by_cases hts : t = a
            · subst hts
              rw [updN_eq, mset_eq]
              exact ⟨rfl, (hz.1 t ht).2⟩
            · rw [updN_ne zs _ hts, mset_nj hts]
              exact hz.1 t ht
          · rw [mset_ne (by omega)]
            exact hz.2 t ht j hj
      · have hno : ¬ sheetA (nI a) so := fun ⟨h1, h2⟩ => by
          rcases h2 with h2 | h2
          · rw [h2] at c_18
            exact absurd (show (-1 : Int32) ≤ nI 2 by decide) c_18
          · have h3 := nx_lt (x := so) (n := 3) (by omega) (by decide)
            rw [h3] at c_18
            have := nI_gt' (by omega) (by omega) c_18
            omega
        refine g_bipush (pc := 21) (v := (-2)) dX7_sheet_21 (by decide) ?_
        refine g_ireturn (pc := 23) dX7_sheet_23 rfl (by first | rfl | decide) rfl ⟨_, rfl, ?_⟩
        exact Or.inl ⟨hno, rfl, rfl⟩
/-- one item is set -/
theorem ZA.put {μ : Mem} {zs : Nat → Int32} {zn : Nat → Nat} {zi : Nat → Nat → Int32} (h : ZA μ zs zn zi) {s j : Nat} (hs : s < 4) (x : Int32) : ZA (mset μ (53 + s) j x) zs zn (updN zi s (updN (zi s) j x)) ∧ TZ μ (mset μ (53 + s) j x) := by
  refine ⟨⟨fun t ht => ?_, fun t ht i hi => ?_⟩, fun c hc => mset_ne (by omega), congrFun (mset_ne (by omega)) 0, congrFun (mset_ne (by omega)) 3⟩
  · rw [mset_ne (by omega), mset_ne (by omega)]
    exact h.1 t ht
  · by_cases hts : t = s
    · subst hts
      rw [updN_eq]
      by_cases hij : i = j
      · subst hij
        rw [mset_eq, updN_eq]
      · rw [mset_nj hij, updN_ne _ _ hij]
        exact h.2 t ht i hi
    · rw [mset_ne (by omega), updN_ne _ _ hts]
      exact h.2 t ht i hi
theorem c_X7_cell (μ : Mem) (zs : Nat → Int32) (zn : Nat → Nat) (zi : Nat → Nat → Int32) (hz : ZA μ zs zn zi) (s i x : Int32) : CA eI yX7_cell cX7_cell 4 (some .int) 2 [.ref 0, .int s, .int i, .int x] μ (fun r μ1 => (¬ nx s < 4 ∧ r = -2 ∧ μ1 = μ) ∨ (nx s < 4 ∧ zs (nx s) = -1 ∧ r = -11 ∧ μ1 = μ) ∨ (nx s < 4 ∧ ¬ zs (nx s) = -1 ∧ ¬ nx i < zn (nx s) ∧ r = -12 ∧ μ1 = μ) ∨ (nx s < 4 ∧ ¬ zs (nx s) = -1 ∧ nx i < zn (nx s) ∧ r = nI 1 ∧ ZA μ1 zs zn (updN zi (nx s) (updN (zi (nx s)) (nx i) (zcv (zs (nx s)) x))) ∧ TZ μ μ1)) := by
  refine CT.of false (by decide) (by decide) (L := [some (.ref 0), some (.int s), some (.int i), some (.int x)]) rfl (Nat.le_of_ble_eq_true rfl) ?_
  refine g_aload_n (pc := 0) dX7_cell_0 rfl ?_
  refine a_getr (pc := 1) (q := 49) fl_X7_57 dX7_cell_1 (by first | rfl | assumption) rfl rfl ?_
  refine g_iload_n (pc := 4) dX7_cell_4 rfl ?_
  refine a_cv1i (pc := 5) (c_X4_has μ s) m_X4_has ml_X7_158 (by omega) (by first | rfl | assumption) rfl rfl (Nat.le_of_ble_eq_true rfl) dX7_cell_5 (fun x_5 μ_5 h_5 => ?_)
  obtain ⟨hm_5, hd_5⟩ := h_5
  have hm_5 := hm_5.symm
  subst hm_5
  rw [has_nx (by omega)] at hd_5
  refine g_if_ne (pc := 8) (tgt := 14) dX7_cell_8 (by decide) (fun c_8 => ?_) (fun c_8 => ?_)
  · have c8 := (hd_5.resolve_right (fun q => c_8 q.1)).2
    have e_a := nx_lt c8 (by omega)
    generalize j_a : nx s = a at e_a c8
    subst e_a
    refine g_aload_n (pc := 14) dX7_cell_14 rfl ?_
    refine a_getr (pc := 15) (q := 49) fl_X7_57 dX7_cell_15 (by first | rfl | assumption) rfl rfl ?_
    refine g_iload_n (pc := 18) dX7_cell_18 rfl ?_
    refine a_cv1i (pc := 19) (c_X4_isMissing μ zs zn hz.1 a c8) m_X4_isMissing ml_X7_159 (by omega) (by first | rfl | assumption) rfl rfl (Nat.le_of_ble_eq_true rfl) dX7_cell_19 (fun x_19 μ_19 h_19 => ?_)
    obtain ⟨hm_19, hd_19⟩ := h_19
    have hm_19 := hm_19.symm
    subst hm_19
    refine g_if_eq (pc := 22) (tgt := 28) dX7_cell_22 (by decide) (fun c_22 => ?_) (fun c_22 => ?_)
    · have c22 := (hd_19.resolve_left (fun q => absurd (q.1.symm.trans c_22) (by decide))).2
      refine g_aload_n (pc := 28) dX7_cell_28 rfl ?_
      refine a_getr (pc := 29) (q := 49) fl_X7_57 dX7_cell_29 (by first | rfl | assumption) rfl rfl ?_
      refine g_iload_n (pc := 32) dX7_cell_32 rfl ?_
      refine g_iload_n (pc := 33) dX7_cell_33 rfl ?_
      refine a_cv2i (pc := 34) (c_X4_hasItem μ zs zn hz.1 a c8 i) m_X4_hasItem ml_X7_239 (by omega) (by first | rfl | assumption) rfl rfl (Nat.le_of_ble_eq_true rfl) dX7_cell_34 (fun x_34 μ_34 h_34 => ?_)
      have h40 := (hz.1 a c8).2.2
      obtain ⟨hm_34, hd_34⟩ := h_34
      have hm_34 := hm_34.symm
      subst hm_34
      rw [has_nx (by omega)] at hd_34
      refine g_if_ne (pc := 37) (tgt := 43) dX7_cell_37 (by decide) (fun c_37 => ?_) (fun c_37 => ?_)
      · have c37 := (hd_34.resolve_right (fun q => c_37 q.1)).2
        have e_m := nx_lt c37 (by omega)
        generalize j_m : nx i = m at e_m c37
        subst e_m
        refine g_aload_n (pc := 43) dX7_cell_43 rfl ?_
        refine a_getr (pc := 44) (q := 49) fl_X7_57 dX7_cell_44 (by first | rfl | assumption) rfl rfl ?_
        refine g_iload_n (pc := 47) dX7_cell_47 rfl ?_
        refine g_iload_n (pc := 48) dX7_cell_48 rfl ?_
        refine g_iload_n (pc := 49) dX7_cell_49 rfl ?_
        refine a_cv3v (pc := 50) (c_X4_put μ zs zn hz.1 a c8 m (by omega) x) m_X4_put ml_X7_242 (by omega) (by first | rfl | assumption) rfl rfl (Nat.le_of_ble_eq_true rfl) dX7_cell_50 (fun x_50 μ_50 h_50 => ?_)
        have hm_50 := (show μ_50 = _ from h_50).symm
        subst hm_50
        refine g_iconst (pc := 53) (v := (nI 1)) dX7_cell_53 (by decide) ?_
        refine g_ireturn (pc := 54) dX7_cell_54 rfl (by first | rfl | decide) rfl ⟨_, rfl, ?_⟩
        exact Or.inr (Or.inr (Or.inr ⟨c8, c22, c37, rfl, hz.put c8 _⟩))
      · have c37 := (hd_34.resolve_left (fun q => absurd (q.1.symm.trans c_37) (by decide))).2
        refine g_bipush (pc := 40) (v := (-12)) dX7_cell_40 (by decide) ?_
        refine g_ireturn (pc := 42) dX7_cell_42 rfl (by first | rfl | decide) rfl ⟨_, rfl, ?_⟩
        exact Or.inr (Or.inr (Or.inl ⟨c8, c22, c37, rfl, rfl⟩))
    · have c22 := (hd_19.resolve_right (fun q => c_22 q.1)).2
      refine g_bipush (pc := 25) (v := (-11)) dX7_cell_25 (by decide) ?_
      refine g_ireturn (pc := 27) dX7_cell_27 rfl (by first | rfl | decide) rfl ⟨_, rfl, ?_⟩
      exact Or.inr (Or.inl ⟨c8, c22, rfl, rfl⟩)
  · have c8 := (hd_5.resolve_left (fun q => absurd (q.1.symm.trans c_8) (by decide))).2
    refine g_bipush (pc := 11) (v := (-2)) dX7_cell_11 (by decide) ?_
    refine g_ireturn (pc := 13) dX7_cell_13 rfl (by first | rfl | decide) rfl ⟨_, rfl, ?_⟩
    exact Or.inl ⟨c8, rfl, rfl⟩
theorem has2_nx {x y : Int32} {n : Nat} (hn : n ≤ 1000) : (∃ f m, x = nI f ∧ y = nI m ∧ f + m ≤ n) ↔ nx x + nx y ≤ n := by
  constructor
  · intro ⟨f, m, h1, h2, h3⟩
    rw [h1, h2, nx_nI (by omega), nx_nI (by omega)]
    exact h3
  · intro h
    exact ⟨_, _, nx_lt (n := 1001) (by omega) (by decide), nx_lt (n := 1001) (by omega) (by decide), h⟩
def cpZ (zi : Nat → Nat → Int32) (s i t j n : Nat) : Nat → Nat → Int32 := updN zi t (fun q => if j ≤ q ∧ q < j + n then zi s (i + (q - j)) else zi t q)
theorem ZA.copy {μ : Mem} {zs : Nat → Int32} {zn : Nat → Nat} {zi : Nat → Nat → Int32} (h : ZA μ zs zn zi) {s i t j n : Nat} (hs : s < 4) (ht : t < 4) (hi : i + n ≤ zn s) : ZA (mcopy μ (53 + s) i (53 + t) j n) zs zn (cpZ zi s i t j n) ∧ TZ μ (mcopy μ (53 + s) i (53 + t) j n) := by
  refine ⟨⟨fun u hu => ?_, fun u hu q hq => ?_⟩, fun c hc => mcopy_ne (by omega), congrFun (mcopy_ne (by omega)) 0, congrFun (mcopy_ne (by omega)) 3⟩
  · rw [mcopy_ne (by omega), mcopy_ne (by omega)]
    exact h.1 u hu
  · unfold cpZ
    by_cases hut : u = t
    · subst hut
      rw [updN_eq]
      by_cases hin : j ≤ q ∧ q < j + n
      · rw [if_pos hin, mcopy_in hin.1 hin.2]
        exact h.2 s hs _ (by omega)
      · rw [if_neg hin]
        unfold mcopy
        rw [if_neg (fun z => hin z.2)]
        exact h.2 u hu q hq
    · rw [updN_ne _ _ hut, mcopy_ne (by omega)]
      exact h.2 u hu q hq
theorem c_X7_copy (μ : Mem) (zs : Nat → Int32) (zn : Nat → Nat) (zi : Nat → Nat → Int32) (hz : ZA μ zs zn zi) (s i t j n : Int32) : CA eI yX7_copy cX7_copy 6 (some .int) 2 [.ref 0, .int s, .int i, .int t, .int j, .int n] μ (fun r μ1 => (¬ (nx s < 4 ∧ nx t < 4) ∧ r = -2 ∧ μ1 = μ) ∨ ((nx s < 4 ∧ nx t < 4) ∧ (zs (nx s) = -1 ∨ zs (nx t) = -1) ∧ r = -11 ∧ μ1 = μ) ∨ ((nx s < 4 ∧ nx t < 4) ∧ ¬ (zs (nx s) = -1 ∨ zs (nx t) = -1) ∧ ¬ zs (nx s) = zs (nx t) ∧ r = -13 ∧ μ1 = μ) ∨ ((nx s < 4 ∧ nx t < 4) ∧ ¬ (zs (nx s) = -1 ∨ zs (nx t) = -1) ∧ zs (nx s) = zs (nx t) ∧ ¬ (nx i + nx n ≤ zn (nx s) ∧ nx j + nx n ≤ zn (nx t)) ∧ r = -12 ∧ μ1 = μ) ∨ ((nx s < 4 ∧ nx t < 4) ∧ ¬ (zs (nx s) = -1 ∨ zs (nx t) = -1) ∧ zs (nx s) = zs (nx t) ∧ (nx i + nx n ≤ zn (nx s) ∧ nx j + nx n ≤ zn (nx t)) ∧ r = n ∧ ZA μ1 zs zn (cpZ zi (nx s) (nx i) (nx t) (nx j) (nx n)) ∧ TZ μ μ1)) := by
  refine CT.of false (by decide) (by decide) (L := [some (.ref 0), some (.int s), some (.int i), some (.int t), some (.int j), some (.int n)]) rfl (Nat.le_of_ble_eq_true rfl) ?_
  refine g_aload_n (pc := 0) dX7_copy_0 rfl ?_
  refine a_getr (pc := 1) (q := 49) fl_X7_57 dX7_copy_1 (by first | rfl | assumption) rfl rfl ?_
  refine g_iload_n (pc := 4) dX7_copy_4 rfl ?_
  refine a_cv1i (pc := 5) (c_X4_has μ s) m_X4_has ml_X7_158 (by omega) (by first | rfl | assumption) rfl rfl (Nat.le_of_ble_eq_true rfl) dX7_copy_5 (fun x_5 μ_5 h_5 => ?_)
  obtain ⟨hm_5, hd_5⟩ := h_5
  have hm_5 := hm_5.symm
  subst hm_5
  rw [has_nx (by omega)] at hd_5
  refine g_if_eq (pc := 8) (tgt := 22) dX7_copy_8 (by decide) (fun c_8 => ?_) (fun c_8 => ?_)
  · have c8 := (hd_5.resolve_left (fun q => absurd (q.1.symm.trans c_8) (by decide))).2
    have hno : ¬ (nx s < 4 ∧ nx t < 4) := fun h => c8 h.1
    refine g_bipush (pc := 22) (v := (-2)) dX7_copy_22 (by decide) ?_
    refine g_ireturn (pc := 24) dX7_copy_24 rfl (by first | rfl | decide) rfl ⟨_, rfl, ?_⟩
    exact Or.inl ⟨hno, rfl, rfl⟩
  · have c8 := (hd_5.resolve_right (fun q => c_8 q.1)).2
    refine g_aload_n (pc := 11) dX7_copy_11 rfl ?_
    refine a_getr (pc := 12) (q := 49) fl_X7_57 dX7_copy_12 (by first | rfl | assumption) rfl rfl ?_
    refine g_iload_n (pc := 15) dX7_copy_15 rfl ?_
    refine a_cv1i (pc := 16) (c_X4_has μ t) m_X4_has ml_X7_158 (by omega) (by first | rfl | assumption) rfl rfl (Nat.le_of_ble_eq_true rfl) dX7_copy_16 (fun x_16 μ_16 h_16 => ?_)
    obtain ⟨hm_16, hd_16⟩ := h_16
    have hm_16 := hm_16.symm
    subst hm_16
    rw [has_nx (by omega)] at hd_16
    refine g_if_ne (pc := 19) (tgt := 25) dX7_copy_19 (by decide) (fun c_19 => ?_) (fun c_19 => ?_)
    · have c19 := (hd_16.resolve_right (fun q => c_19 q.1)).2
      have hyes : nx s < 4 ∧ nx t < 4 := ⟨c8, c19⟩
      have e_a := nx_lt c8 (by omega)
      generalize j_a : nx s = a at e_a c8 hyes
      subst e_a
      have e_b := nx_lt c19 (by omega)
      generalize j_b : nx t = b at e_b c19 hyes
      subst e_b
      refine g_aload_n (pc := 25) dX7_copy_25 rfl ?_
      refine a_getr (pc := 26) (q := 49) fl_X7_57 dX7_copy_26 (by first | rfl | assumption) rfl rfl ?_
      refine g_iload_n (pc := 29) dX7_copy_29 rfl ?_
      refine a_cv1i (pc := 30) (c_X4_isMissing μ zs zn hz.1 a c8) m_X4_isMissing ml_X7_159 (by omega) (by first | rfl | assumption) rfl rfl (Nat.le_of_ble_eq_true rfl) dX7_copy_30 (fun x_30 μ_30 h_30 => ?_)
      obtain ⟨hm_30, hd_30⟩ := h_30
      have hm_30 := hm_30.symm
      subst hm_30
      refine g_if_ne (pc := 33) (tgt := 47) dX7_copy_33 (by decide) (fun c_33 => ?_) (fun c_33 => ?_)
      · have c33 := (hd_30.resolve_right (fun q => c_33 q.1)).2
        have hmis : zs a = -1 ∨ zs b = -1 := Or.inl c33
        refine g_bipush (pc := 47) (v := (-11)) dX7_copy_47 (by decide) ?_
        refine g_ireturn (pc := 49) dX7_copy_49 rfl (by first | rfl | decide) rfl ⟨_, rfl, ?_⟩
        exact Or.inr (Or.inl ⟨hyes, hmis, rfl, rfl⟩)
      · have c33 := (hd_30.resolve_left (fun q => absurd (q.1.symm.trans c_33) (by decide))).2
        refine g_aload_n (pc := 36) dX7_copy_36 rfl ?_
        refine a_getr (pc := 37) (q := 49) fl_X7_57 dX7_copy_37 (by first | rfl | assumption) rfl rfl ?_
        refine g_iload_n (pc := 40) dX7_copy_40 rfl ?_
        refine a_cv1i (pc := 41) (c_X4_isMissing μ zs zn hz.1 b c19) m_X4_isMissing ml_X7_159 (by omega) (by first | rfl | assumption) rfl rfl (Nat.le_of_ble_eq_true rfl) dX7_copy_41 (fun x_41 μ_41 h_41 => ?_)
        obtain ⟨hm_41, hd_41⟩ := h_41
        have hm_41 := hm_41.symm
        subst hm_41
        refine g_if_eq (pc := 44) (tgt := 50) dX7_copy_44 (by decide) (fun c_44 => ?_) (fun c_44 => ?_)
        · have c44 := (hd_41.resolve_left (fun q => absurd (q.1.symm.trans c_44) (by decide))).2
          have hmis : ¬ (zs a = -1 ∨ zs b = -1) := fun h => h.elim c33 c44
          refine g_aload_n (pc := 50) dX7_copy_50 rfl ?_
          refine a_getr (pc := 51) (q := 49) fl_X7_57 dX7_copy_51 (by first | rfl | assumption) rfl rfl ?_
          refine a_getr (pc := 54) (q := 50) fl_X7_236 dX7_copy_54 (by first | rfl | assumption) rfl rfl ?_
          refine g_iload_n (pc := 57) dX7_copy_57 rfl ?_
          refine v_iald (pc := 58) dX7_copy_58 (by first | rfl | assumption) rfl (by omega) (hz.1 a c8).1 ?_
          refine g_aload_n (pc := 59) dX7_copy_59 rfl ?_
          refine a_getr (pc := 60) (q := 49) fl_X7_57 dX7_copy_60 (by first | rfl | assumption) rfl rfl ?_
          refine a_getr (pc := 63) (q := 50) fl_X7_236 dX7_copy_63 (by first | rfl | assumption) rfl rfl ?_
          refine g_iload_n (pc := 66) dX7_copy_66 rfl ?_
          refine v_iald (pc := 67) dX7_copy_67 (by first | rfl | assumption) rfl (by omega) (hz.1 b c19).1 ?_
          refine g_icmp_eq (pc := 68) (tgt := 74) dX7_copy_68 (by decide) (fun c_68 => ?_) (fun c_68 => ?_)
          · refine g_aload_n (pc := 74) dX7_copy_74 rfl ?_
            refine a_getr (pc := 75) (q := 49) fl_X7_57 dX7_copy_75 (by first | rfl | assumption) rfl rfl ?_
            refine g_iload_n (pc := 78) dX7_copy_78 rfl ?_
            refine g_iload_n (pc := 79) dX7_copy_79 rfl ?_
            refine g_iload (pc := 80) dX7_copy_80 rfl ?_
            refine a_cv3i (pc := 82) (c_X4_hasItems μ zs zn hz.1 a c8 i n) m_X4_hasItems ml_X7_243 (by omega) (by first | rfl | assumption) rfl rfl (Nat.le_of_ble_eq_true rfl) dX7_copy_82 (fun x_82 μ_82 h_82 => ?_)
            have h40 := (hz.1 a c8).2.2
            have h41 := (hz.1 b c19).2.2
            obtain ⟨hm_82, hd_82⟩ := h_82
            have hm_82 := hm_82.symm
            subst hm_82
            rw [has2_nx (by omega)] at hd_82
            refine g_if_eq (pc := 85) (tgt := 103) dX7_copy_85 (by decide) (fun c_85 => ?_) (fun c_85 => ?_)
            · have c85 := (hd_82.resolve_left (fun q => absurd (q.1.symm.trans c_85) (by decide))).2
              have hout : ¬ (nx i + nx n ≤ zn a ∧ nx j + nx n ≤ zn b) := fun h => c85 h.1
              refine g_bipush (pc := 103) (v := (-12)) dX7_copy_103 (by decide) ?_
              refine g_ireturn (pc := 105) dX7_copy_105 rfl (by first | rfl | decide) rfl ⟨_, rfl, ?_⟩
              exact Or.inr (Or.inr (Or.inr (Or.inl ⟨hyes, hmis, c_68, hout, rfl, rfl⟩)))
            · have c85 := (hd_82.resolve_right (fun q => c_85 q.1)).2
              refine g_aload_n (pc := 88) dX7_copy_88 rfl ?_
              refine a_getr (pc := 89) (q := 49) fl_X7_57 dX7_copy_89 (by first | rfl | assumption) rfl rfl ?_
              refine g_iload_n (pc := 92) dX7_copy_92 rfl ?_
              refine g_iload (pc := 93) dX7_copy_93 rfl ?_
              refine g_iload (pc := 95) dX7_copy_95 rfl ?_
              refine a_cv3i (pc := 97) (c_X4_hasItems μ zs zn hz.1 b c19 j n) m_X4_hasItems ml_X7_243 (by omega) (by first | rfl | assumption) rfl rfl (Nat.le_of_ble_eq_true rfl) dX7_copy_97 (fun x_97 μ_97 h_97 => ?_)
              obtain ⟨hm_97, hd_97⟩ := h_97
              have hm_97 := hm_97.symm
              subst hm_97
              rw [has2_nx (by omega)] at hd_97
              refine g_if_ne (pc := 100) (tgt := 106) dX7_copy_100 (by decide) (fun c_100 => ?_) (fun c_100 => ?_)
              · have c100 := (hd_97.resolve_right (fun q => c_100 q.1)).2
                refine g_aload_n (pc := 106) dX7_copy_106 rfl ?_
                refine a_getr (pc := 107) (q := 49) fl_X7_57 dX7_copy_107 (by first | rfl | assumption) rfl rfl ?_
                refine a_getr (pc := 110) (q := 52) fl_X7_211 dX7_copy_110 (by first | rfl | assumption) rfl rfl ?_
                refine g_iload_n (pc := 113) dX7_copy_113 rfl ?_
                refine v_aald (pc := 114) dX7_copy_114 (by first | rfl | assumption) rfl (by omega) (show 52 + 1 + a = 53 + a by omega) ?_
                refine g_iload_n (pc := 115) dX7_copy_115 rfl ?_
                refine g_aload_n (pc := 116) dX7_copy_116 rfl ?_
                refine a_getr (pc := 117) (q := 49) fl_X7_57 dX7_copy_117 (by first | rfl | assumption) rfl rfl ?_
                refine a_getr (pc := 120) (q := 52) fl_X7_211 dX7_copy_120 (by first | rfl | assumption) rfl rfl ?_
                refine g_iload_n (pc := 123) dX7_copy_123 rfl ?_
                refine v_aald (pc := 124) dX7_copy_124 (by first | rfl | assumption) rfl (by omega) (show 52 + 1 + b = 53 + b by omega) ?_
                refine g_iload (pc := 125) dX7_copy_125 rfl ?_
                refine g_iload (pc := 127) dX7_copy_127 rfl ?_
                refine a_copy (pc := 129) (sp := nx i) (dp := nx j) (n := nx n) ml_X7_124 (by omega) (Nat.le_of_ble_eq_true rfl) dX7_copy_129 (shS a c8) (shS b c19) (nx_lt (n := 41) (by omega) (by decide)) (nx_lt (n := 41) (by omega) (by decide)) (nx_lt (n := 41) (by omega) (by decide)) (by omega) (by omega) ?_
                refine g_iload (pc := 132) dX7_copy_132 rfl ?_
                refine g_ireturn (pc := 134) dX7_copy_134 rfl (by first | rfl | decide) rfl ⟨_, rfl, ?_⟩
                exact Or.inr (Or.inr (Or.inr (Or.inr ⟨hyes, hmis, c_68, ⟨c85, c100⟩, rfl, hz.copy c8 c19 c85⟩)))
              · have c100 := (hd_97.resolve_left (fun q => absurd (q.1.symm.trans c_100) (by decide))).2
                have hout : ¬ (nx i + nx n ≤ zn a ∧ nx j + nx n ≤ zn b) := fun h => c100 h.2
                refine g_bipush (pc := 103) (v := (-12)) dX7_copy_103 (by decide) ?_
                refine g_ireturn (pc := 105) dX7_copy_105 rfl (by first | rfl | decide) rfl ⟨_, rfl, ?_⟩
                exact Or.inr (Or.inr (Or.inr (Or.inl ⟨hyes, hmis, c_68, hout, rfl, rfl⟩)))
          · refine g_bipush (pc := 71) (v := (-13)) dX7_copy_71 (by decide) ?_
            refine g_ireturn (pc := 73) dX7_copy_73 rfl (by first | rfl | decide) rfl ⟨_, rfl, ?_⟩
            exact Or.inr (Or.inr (Or.inl ⟨hyes, hmis, c_68, rfl, rfl⟩))
        · have c44 := (hd_41.resolve_right (fun q => c_44 q.1)).2
          have hmis : zs a = -1 ∨ zs b = -1 := Or.inr c44
          refine g_bipush (pc := 47) (v := (-11)) dX7_copy_47 (by decide) ?_
          refine g_ireturn (pc := 49) dX7_copy_49 rfl (by first | rfl | decide) rfl ⟨_, rfl, ?_⟩
          exact Or.inr (Or.inl ⟨hyes, hmis, rfl, rfl⟩)
    · have c19 := (hd_16.resolve_left (fun q => absurd (q.1.symm.trans c_19) (by decide))).2
      have hno : ¬ (nx s < 4 ∧ nx t < 4) := fun h => c19 h.2
      refine g_bipush (pc := 22) (v := (-2)) dX7_copy_22 (by decide) ?_
      refine g_ireturn (pc := 24) dX7_copy_24 rfl (by first | rfl | decide) rfl ⟨_, rfl, ?_⟩
      exact Or.inl ⟨hno, rfl, rfl⟩
