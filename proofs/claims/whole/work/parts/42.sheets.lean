/-! ===== the search: how damp, how hot; sheets ===== -/
def moW (w : Nat) : Nat := if w = 0 then 9 else 99
theorem moW_s : ∀ w, w < 2 → s_V 0 w = nI (moW w) ∧ moW w ≤ 99 := by decide
theorem vset_same (v : View) (i j : Nat) : vset v i j (v i j) = v := by
  funext a b
  unfold vset
  split
  · rename_i h
    rw [h.1, h.2]
  · rfl
theorem vset_ne {v : View} {i j x a b : Nat} (h : ¬ (a = i ∧ b = j)) : vset v i j x a b = v a b := by
  unfold vset
  rw [if_neg h]
theorem vset_eq {v : View} {i j x : Nat} : vset v i j x i j = x := by
  unfold vset
  rw [if_pos ⟨rfl, rfl⟩]
theorem vset2 (v : View) (i j x y : Nat) : vset (vset v i j x) i j y = vset v i j y := by
  funext a b
  unfold vset
  split
  · rfl
  · rfl
/-- heat or damp of a shirt is set -/
theorem SV.setW {μ : Mem} {sb : Nat} {v : View} {w x : Nat} (h : SV μ sb v) (hw : w < 2) (hx : x ≤ moW w) : SV (mset μ sb w (nI x)) sb (vset v 0 w x) := by
  obtain ⟨⟨e0, b0⟩, ⟨e1, b1⟩, ⟨e2, b2⟩, ⟨e3, b3⟩, hp⟩ := h
  have hn : vset v 0 w x 0 3 = v 0 3 := vset_ne (by omega)
  have hr : vset v 0 w x 0 2 = v 0 2 := vset_ne (by omega)
  refine ⟨?_, ?_, ?_, ?_, fun p hpn => ?_⟩
  · rcases (show w = 0 ∨ w = 1 by omega) with rfl | rfl
    · rw [vset_eq, mset_eq]
      exact ⟨rfl, hx⟩
    · rw [vset_ne (by omega), mset_nj (by omega)]
      exact ⟨e0, b0⟩
  · rcases (show w = 0 ∨ w = 1 by omega) with rfl | rfl
    · rw [vset_ne (by omega), mset_nj (by omega)]
      exact ⟨e1, b1⟩
    · rw [vset_eq, mset_eq]
      exact ⟨rfl, hx⟩
  · rw [hr, mset_nj (by omega)]
    exact ⟨e2, b2⟩
  · rw [hn, mset_nj (by omega)]
    exact ⟨e3, b3⟩
  · rw [hn] at hpn
    rw [vset_ne (by omega), vset_ne (by omega), vset_ne (by omega), vset_ne (by omega), mset_ne (by omega), mset_ne (by omega), mset_ne (by omega), mset_ne (by omega)]
    exact hp p hpn
def seS (v : View) (Q : Nat → List Nat) (w : Nat) : Nat → Int32 × Nat
  | 0 => (-1, 2147483647)
  | x + 1 => offS (seS v Q w x) (nI x) (CR (vset v 0 w x) Q 9 (chs 127 (v 0 3)))
/-- what a trial leaves as it is -/
def TF (μ μ1 : Mem) : Prop := (∀ c, c < 11 ∨ (15 < c ∧ c < 31) ∨ c = 33 ∨ c = 34 ∨ 48 < c → μ1 c = μ c) ∧ μ1 46 0 = μ 46 0 ∧ μ1 35 3 = μ 35 3
theorem TF.trans {μ μ1 μ2 : Mem} (h : TF μ μ1) (g : TF μ1 μ2) : TF μ μ2 := ⟨fun c hc => (g.1 c hc).trans (h.1 c hc), g.2.1.trans h.2.1, g.2.2.trans h.2.2⟩
theorem SF.tf {μ μ1 : Mem} (h : SF μ μ1) : TF μ μ1 := ⟨fun c hc => h.1 c (by omega), h.2.1, h.2.2⟩
theorem vS_w : ∀ w, w < 2 → vS w 0 = (0, w) := by decide
theorem SV.bec_of {μ μ1 : Mem} {sb ob : Nat} {v : View} (hv : SV μ ob v) (h : BEC μ μ1 sb ob) : SV μ1 sb v := SV.bec h hv
theorem c_X3_setting (ob : Nat) (hob : SB ob) (hne : 11 ≠ ob) (v : View) (Q : Nat → List Nat) (μ : Mem) (hv : SV μ ob v) (hQ0 : ∀ e, e < 3 → CodeOK μ (v 0 2) e (Q e) ∧ Pure1 (Q e)) (h460 : μ 46 0 = nI 0) (hsp : μ 35 3 = -1) (w : Nat) (hw : w < 2) : CA eV yX3_setting cX3_setting 4 none 5 [.ref 48, .ref ob, .int (nI w)] μ (fun _ μ1 => SRW μ1 (seS v Q w (moW w + 1)) ∧ TF μ μ1) := by
  obtain ⟨hvb0, hQ, h46⟩ : VB v ∧ (∀ e, e < 3 → CodeOK μ (v 0 2) e (Q e) ∧ Pure1 (Q e)) ∧ μ 46 0 = nI 0 := ⟨hv.vb, hQ0, h460⟩
  have hsb : SB 11 := Or.inr (Or.inr rfl)
  obtain ⟨hs0, hs1, hs2, hs3, hs4, hr4, hr5, hr6, hr7, hs9⟩ := hob.f
  have hn7 := hvb0.1
  have hr5b : v 0 2 ≤ 5 := hv.2.2.1.2
  have h127 := chs_lo 127 (v 0 3)
  obtain ⟨mw1, mw2⟩ := moW_s w hw
  have hvw := vS_w w hw
  refine CT.of false (by decide) (by decide) (L := [some (.ref 48), some (.ref ob), some (.int (nI w)), none]) rfl (Nat.le_of_ble_eq_true rfl) ?_
  refine g_aload_n (pc := 0) dX3_setting_0 rfl ?_
  refine g_ldc (pc := 1) dX3_setting_1 kc_X3_69 ?_
  refine a_cv1v (pc := 3) (c_X3_begin μ 2147483647 (by decide)) m_X3_begin ml_X3_51 (by omega) (by first | assumption | rfl) rfl rfl (Nat.le_of_ble_eq_true rfl) dX3_setting_3 (fun x_3 μ_3 h_3 => ?_)
  obtain ⟨s3, x3⟩ := h_3
  refine g_aload_n (pc := 6) dX3_setting_6 rfl ?_
  refine a_getr (pc := 7) (q := 11) fl_X3_15 dX3_setting_7 (by first | assumption | rfl) rfl rfl ?_
  refine g_aload_n (pc := 10) dX3_setting_10 rfl ?_
  refine a_cv1v (pc := 11) (c_X5_become 11 ob hsb hob hne μ_3) m_X5_become ml_X3_70 (by omega) (by first | assumption | rfl) rfl rfl (Nat.le_of_ble_eq_true rfl) dX3_setting_11 (fun x_11 μ_11 h_11 => ?_)
  obtain ⟨b1, b2, b3⟩ := id h_11
  have hv11 : SV μ_11 11 v := (hv.moved (fun k h1 h2 => x3 k (by omega))).bec_of h_11
  have f11 : TF μ μ_11 := ⟨fun c hc => (b3 c (by omega)).trans (x3 c (by omega)), (congrFun (b3 46 (by omega)) 0).trans (congrFun (x3 46 (by omega)) 0), (congrFun (b3 35 (by omega)) 3).trans (congrFun (x3 35 (by omega)) 3)⟩
  have s11 := s3.moved (b3 48 (by omega))
  refine g_iconst (pc := 14) (v := (nI 0)) dX3_setting_14 (by decide) ?_
  refine a_ist3 (pc := 15) dX3_setting_15 (by decide) rfl ?_
  have lp16 : ∀ (zz : Nat) (x y : Nat) (hx : x ≤ moW w + 1) (ν : Mem) (hν : SV ν 11 (vset v 0 w y) ∧ SRW ν (seS v Q w x) ∧ TF μ ν), moW w + 1 - x = zz → WG eV yX3_setting.cls cX3_setting 4 none false (fun _ _ => True) 5 (mpost (fun _ μ1 => SRW μ1 (seS v Q w (moW w + 1)) ∧ TF μ μ1)) 0 0 16 [some (.ref 48), some (.ref ob), some (.int (nI w)), some (.int (nI x))] [] (mk ν) := by
    intro zz
    induction zz using Nat.strongRecOn with
    | ind zz ih =>
      intro x y hx ν hν hzz
      obtain ⟨d1, s1, f1⟩ := hν
      refine g_iload_n (pc := 16) dX3_setting_16 rfl ?_
      refine g_getsN (pc := 17) dX3_setting_17 ?_
      refine g_iload_n (pc := 20) dX3_setting_20 rfl ?_
      refine v_sald (pc := 21) (i := 0) (by decide) rfl (by show w < 6; omega) dX3_setting_21 mw1 ?_
      refine g_icmp_gt (pc := 22) (tgt := 81) dX3_setting_22 (by decide) (fun c_22 => ?_) (fun c_22 => ?_)
      · have c22 : moW w < x := nI_lt' (by omega) (by omega) c_22
        obtain rfl : x = moW w + 1 := by omega
        refine g_return (pc := 81) (x := ()) dX3_setting_81 rfl rfl ⟨_, rfl, ?_⟩
        exact ⟨s1, f1⟩
      · have c22 : x ≤ moW w := nI_ge' (by omega) (by omega) c_22
        refine g_aload_n (pc := 25) dX3_setting_25 rfl ?_
        refine a_getr (pc := 26) (q := 11) fl_X3_15 dX3_setting_26 (by first | assumption | rfl) rfl rfl ?_
        refine g_iload_n (pc := 29) dX3_setting_29 rfl ?_
        refine g_iconst (pc := 30) (v := (nI 0)) dX3_setting_30 (by decide) ?_
        refine g_iload_n (pc := 31) dX3_setting_31 rfl ?_
        refine a_cv3v (pc := 32) (c_X5_put 11 hsb (vset v 0 w y) ν d1 w 0 (nI 0) (nI x) (by omega) (by omega)) m_X5_put ml_X3_77 (by omega) (by first | assumption | rfl) rfl rfl (Nat.le_of_ble_eq_true rfl) dX3_setting_32 (fun x_32 μ_32 h_32 => ?_)
        have hm := (show μ_32 = _ from h_32).symm
        rw [hvw] at hm
        have hm2 : mset ν 11 w (nI x) = μ_32 := hm
        have dv : SV μ_32 11 (vset v 0 w x) := by
          rw [← hm2, ← vset2 v 0 w y x]
          exact d1.setW hw c22
        have x32 : ∀ c, c ≠ 11 → μ_32 c = ν c := fun c hc => by rw [← hm2]; exact mset_ne hc
        have g32 : TF ν μ_32 := ⟨fun c hc => x32 c (by omega), congrFun (x32 46 (by omega)) 0, congrFun (x32 35 (by omega)) 3⟩
        have g9 := f1.trans g32
        have hru : vset v 0 w x 0 2 = v 0 2 := vset_ne (by omega)
        have hnn : vset v 0 w x 0 3 = v 0 3 := vset_ne (by omega)
        have c32 : CW μ_32 11 (vset v 0 w x) Q := ⟨hsb, dv, fun e he => by
          rw [hru]
          exact ⟨(hQ e he).1.moved (g9.1 _ (by omega)) (g9.1 _ (by omega)), (hQ e he).2⟩, g9.2.1.trans h46⟩
        have hvb := dv.vb
        have h127x : LO (chs 127 (v 0 3)) (vset v 0 w x 0 3) := by rw [hnn]; exact h127
        refine g_aload_n (pc := 35) dX3_setting_35 rfl ?_
        refine a_getr (pc := 36) (q := 35) fl_X3_9 dX3_setting_36 (by first | assumption | rfl) rfl rfl ?_
        refine g_aload_n (pc := 39) dX3_setting_39 rfl ?_
        refine a_getr (pc := 40) (q := 11) fl_X3_15 dX3_setting_40 (by first | assumption | rfl) rfl rfl ?_
        refine g_bipush (pc := 43) (v := (nI 127)) dX3_setting_43 (by decide) ?_
        refine a_cv2v (pc := 45) (c_X0_choose 11 hsb (vset v 0 w x) μ_32 dv 127 (by decide)) m_X0_choose ml_X3_26 (by omega) (by first | assumption | rfl) rfl rfl (Nat.le_of_ble_eq_true rfl) dX3_setting_45 (fun x_45 μ_45 h_45 => ?_)
        rw [hnn] at h_45
        obtain ⟨c45, o45, f45, w45, p45⟩ := c32.cho h_45
        refine g_aload_n (pc := 48) dX3_setting_48 rfl ?_
        refine a_getr (pc := 49) (q := 35) fl_X3_9 dX3_setting_49 (by first | assumption | rfl) rfl rfl ?_
        refine g_aload_n (pc := 52) dX3_setting_52 rfl ?_
        refine a_getr (pc := 53) (q := 11) fl_X3_15 dX3_setting_53 (by first | assumption | rfl) rfl rfl ?_
        refine a_cv1v (pc := 56) (c_X0_run 11 hsb (vset v 0 w x) Q μ_45 c45.2.1 c45.2.2.1 9 (Or.inl ⟨p45.trans (g9.2.2.trans hsp), rfl⟩) _ o45 h127x c45.2.2.2) m_X0_run ml_X3_32 (by omega) (by first | assumption | rfl) rfl rfl (Nat.le_of_ble_eq_true rfl) dX3_setting_56 (fun x_56 μ_56 h_56 => ?_)
        obtain ⟨c56, o56, f56, w56, p56, r56⟩ := CW.ran c45 o45 h127x h_56
        refine g_aload_n (pc := 59) dX3_setting_59 rfl ?_
        refine g_iload_n (pc := 60) dX3_setting_60 rfl ?_
        refine g_aload_n (pc := 61) dX3_setting_61 rfl ?_
        refine a_getr (pc := 62) (q := 35) fl_X3_9 dX3_setting_62 (by first | assumption | rfl) rfl rfl ?_
        refine g_aload_n (pc := 65) dX3_setting_65 rfl ?_
        refine a_getr (pc := 66) (q := 11) fl_X3_15 dX3_setting_66 (by first | assumption | rfl) rfl rfl ?_
        refine a_cv1i (pc := 69) (c_X0_creased 11 hsb (vset v 0 w x) μ_56 c56.2.1 _ o56 _ r56) m_X0_creased ml_X3_40 (by omega) (by first | assumption | rfl) rfl rfl (Nat.le_of_ble_eq_true rfl) dX3_setting_69 (fun x_69 μ_69 h_69 => ?_)
        obtain ⟨rfl, hm_69⟩ := h_69
        have hm_69 := hm_69.symm
        subst hm_69
        refine a_cv2v (pc := 72) (c_X3_offer μ_56 _ (s1.moved (w56.trans (w45.trans (x32 48 (by omega))))) (nI x) _ (show CR (vset v 0 w x) Q 9 (chs 127 (v 0 3)) < 2 ^ 31 from Nat.lt_of_le_of_lt (CR_lt hvb h127x) (by decide))) m_X3_offer ml_X3_63 (by omega) (by first | assumption | rfl) rfl rfl (Nat.le_of_ble_eq_true rfl) dX3_setting_72 (fun x_72 μ_72 h_72 => ?_)
        obtain ⟨s9, x9⟩ := h_72
        refine a_iinc3 (pc := 75) dX3_setting_75 (inc1 x) (by decide) rfl ?_
        refine g_goto (pc := 78) (tgt := 16) dX3_setting_78 (by decide) ?_
        exact ih (moW w + 1 - (x + 1)) (by omega) (x + 1) x (by omega) _ ⟨c56.2.1.moved (fun k h1 h2 => x9 k (by omega)), s9, ((f1.trans g32).trans (f45.tf.trans f56.tf)).trans ⟨fun c hc => x9 c (by omega), congrFun (x9 46 (by omega)) 0, congrFun (x9 35 (by omega)) 3⟩⟩ rfl
  exact lp16 _ 0 (v 0 w) (Nat.zero_le _) _ ⟨by rw [vset_same]; exact hv11, s11, f11⟩ rfl
theorem shS : ∀ s, s < 4 → sh (53 + s) = (0, 40) := by decide
/-- the sheets: sorts, sizes -/
def ZV (μ : Mem) (zs : Nat → Int32) (zn : Nat → Nat) : Prop := ∀ s, s < 4 → μ 50 s = zs s ∧ μ 51 s = nI (zn s) ∧ zn s ≤ 40
theorem c_X4_has (μ : Mem) (x : Int32) : CA eI yX4_has cX4_has 2 (some .boolean) 0 [.ref 49, .int x] μ (fun r μ1 => μ1 = μ ∧ ((r = nI 1 ∧ ∃ s, s < 4 ∧ x = nI s) ∨ (r = nI 0 ∧ ¬ ∃ s, s < 4 ∧ x = nI s))) := by
  refine CT.of false (by decide) (by decide) (L := [some (.ref 49), some (.int x)]) rfl (Nat.le_of_ble_eq_true rfl) ?_
  refine g_iload_n (pc := 0) dX4_has_0 rfl ?_
  refine g_if_lt (pc := 1) (tgt := 13) dX4_has_1 (by decide) (fun c_1 => ?_) (fun c_1 => ?_)
  · refine g_iconst (pc := 13) (v := (nI 0)) dX4_has_13 (by decide) ?_
    refine g_ireturn (pc := 14) dX4_has_14 rfl (by first | rfl | decide) rfl ⟨_, rfl, ?_⟩
    refine ⟨rfl, Or.inr ⟨rfl, fun ⟨p, h1, h2⟩ => ?_⟩⟩
    rw [h2] at c_1
    exact nI_pos (by omega) c_1
  · obtain ⟨j, hj, rfl⟩ := nI_of c_1
    refine g_iload_n (pc := 4) dX4_has_4 rfl ?_
    refine g_iconst (pc := 5) (v := (nI 4)) dX4_has_5 (by decide) ?_
    refine g_icmp_ge (pc := 6) (tgt := 13) dX4_has_6 (by decide) (fun c_6 => ?_) (fun c_6 => ?_)
    · have c6 := nI_le' (by omega) (by omega) c_6
      refine g_iconst (pc := 13) (v := (nI 0)) dX4_has_13 (by decide) ?_
      refine g_ireturn (pc := 14) dX4_has_14 rfl (by first | rfl | decide) rfl ⟨_, rfl, ?_⟩
      first | exact ⟨rfl, Or.inl ⟨rfl, j, by omega, rfl⟩⟩ | exact ⟨rfl, Or.inr ⟨rfl, fun ⟨p, h1, h2⟩ => by have := (nI_inj (by omega) (by omega)).mp h2; omega⟩⟩
    · have c6 := nI_gt' (by omega) (by omega) c_6
      refine g_iconst (pc := 9) (v := (nI 1)) dX4_has_9 (by decide) ?_
      refine g_goto (pc := 10) (tgt := 14) dX4_has_10 (by decide) ?_
      refine g_ireturn (pc := 14) dX4_has_14 rfl (by first | rfl | decide) rfl ⟨_, rfl, ?_⟩
      first | exact ⟨rfl, Or.inl ⟨rfl, j, by omega, rfl⟩⟩ | exact ⟨rfl, Or.inr ⟨rfl, fun ⟨p, h1, h2⟩ => by have := (nI_inj (by omega) (by omega)).mp h2; omega⟩⟩
theorem c_X4_isMissing (μ : Mem) (zs : Nat → Int32) (zn : Nat → Nat) (hz : ZV μ zs zn) (s : Nat) (hs : s < 4) : CA eI yX4_isMissing cX4_isMissing 2 (some .boolean) 0 [.ref 49, .int (nI s)] μ (fun r μ1 => μ1 = μ ∧ ((r = nI 1 ∧ zs s = -1) ∨ (r = nI 0 ∧ ¬ zs s = -1))) := by
  obtain ⟨z1, z2, z3⟩ := hz s hs
  refine CT.of false (by decide) (by decide) (L := [some (.ref 49), some (.int (nI s))]) rfl (Nat.le_of_ble_eq_true rfl) ?_
  refine g_aload_n (pc := 0) dX4_isMissing_0 rfl ?_
  refine a_getr (pc := 1) (q := 50) fl_X4_9 dX4_isMissing_1 (by first | assumption | rfl) rfl rfl ?_
  refine g_iload_n (pc := 4) dX4_isMissing_4 rfl ?_
  refine v_iald (pc := 5) dX4_isMissing_5 (by first | assumption | rfl) rfl (by omega) z1 ?_
  refine g_iconst (pc := 6) (v := (-1)) dX4_isMissing_6 (by decide) ?_
  refine g_icmp_ne (pc := 7) (tgt := 14) dX4_isMissing_7 (by decide) (fun c_7 => ?_) (fun c_7 => ?_)
  · refine g_iconst (pc := 14) (v := (nI 0)) dX4_isMissing_14 (by decide) ?_
    refine g_ireturn (pc := 15) dX4_isMissing_15 rfl (by first | rfl | decide) rfl ⟨_, rfl, ?_⟩
    first | exact ⟨rfl, Or.inl ⟨rfl, c_7⟩⟩ | exact ⟨rfl, Or.inr ⟨rfl, c_7⟩⟩
  · refine g_iconst (pc := 10) (v := (nI 1)) dX4_isMissing_10 (by decide) ?_
    refine g_goto (pc := 11) (tgt := 15) dX4_isMissing_11 (by decide) ?_
    refine g_ireturn (pc := 15) dX4_isMissing_15 rfl (by first | rfl | decide) rfl ⟨_, rfl, ?_⟩
    first | exact ⟨rfl, Or.inl ⟨rfl, c_7⟩⟩ | exact ⟨rfl, Or.inr ⟨rfl, c_7⟩⟩
theorem c_X4_hasItem (μ : Mem) (zs : Nat → Int32) (zn : Nat → Nat) (hz : ZV μ zs zn) (s : Nat) (hs : s < 4) (x : Int32) : CA eI yX4_hasItem cX4_hasItem 3 (some .boolean) 0 [.ref 49, .int (nI s), .int x] μ (fun r μ1 => μ1 = μ ∧ ((r = nI 1 ∧ ∃ j, j < zn s ∧ x = nI j) ∨ (r = nI 0 ∧ ¬ ∃ j, j < zn s ∧ x = nI j))) := by
  obtain ⟨z1, z2, z3⟩ := hz s hs
  refine CT.of false (by decide) (by decide) (L := [some (.ref 49), some (.int (nI s)), some (.int x)]) rfl (Nat.le_of_ble_eq_true rfl) ?_
  refine g_iload_n (pc := 0) dX4_hasItem_0 rfl ?_
  refine g_if_lt (pc := 1) (tgt := 18) dX4_hasItem_1 (by decide) (fun c_1 => ?_) (fun c_1 => ?_)
  · refine g_iconst (pc := 18) (v := (nI 0)) dX4_hasItem_18 (by decide) ?_
    refine g_ireturn (pc := 19) dX4_hasItem_19 rfl (by first | rfl | decide) rfl ⟨_, rfl, ?_⟩
    refine ⟨rfl, Or.inr ⟨rfl, fun ⟨p, h1, h2⟩ => ?_⟩⟩
    rw [h2] at c_1
    exact nI_pos (by omega) c_1
  · obtain ⟨j, hj, rfl⟩ := nI_of c_1
    refine g_iload_n (pc := 4) dX4_hasItem_4 rfl ?_
    refine g_aload_n (pc := 5) dX4_hasItem_5 rfl ?_
    refine a_getr (pc := 6) (q := 51) fl_X4_13 dX4_hasItem_6 (by first | assumption | rfl) rfl rfl ?_
    refine g_iload_n (pc := 9) dX4_hasItem_9 rfl ?_
    refine v_iald (pc := 10) dX4_hasItem_10 (by first | assumption | rfl) rfl (by omega) z2 ?_
    refine g_icmp_ge (pc := 11) (tgt := 18) dX4_hasItem_11 (by decide) (fun c_11 => ?_) (fun c_11 => ?_)
    · have c11 := nI_le' (by omega) (by omega) c_11
      refine g_iconst (pc := 18) (v := (nI 0)) dX4_hasItem_18 (by decide) ?_
      refine g_ireturn (pc := 19) dX4_hasItem_19 rfl (by first | rfl | decide) rfl ⟨_, rfl, ?_⟩
      first | exact ⟨rfl, Or.inl ⟨rfl, j, by omega, rfl⟩⟩ | exact ⟨rfl, Or.inr ⟨rfl, fun ⟨p, h1, h2⟩ => by have := (nI_inj (by omega) (by omega)).mp h2; omega⟩⟩
    · have c11 := nI_gt' (by omega) (by omega) c_11
      refine g_iconst (pc := 14) (v := (nI 1)) dX4_hasItem_14 (by decide) ?_
      refine g_goto (pc := 15) (tgt := 19) dX4_hasItem_15 (by decide) ?_
      refine g_ireturn (pc := 19) dX4_hasItem_19 rfl (by first | rfl | decide) rfl ⟨_, rfl, ?_⟩
      first | exact ⟨rfl, Or.inl ⟨rfl, j, by omega, rfl⟩⟩ | exact ⟨rfl, Or.inr ⟨rfl, fun ⟨p, h1, h2⟩ => by have := (nI_inj (by omega) (by omega)).mp h2; omega⟩⟩
theorem c_X4_hasItems (μ : Mem) (zs : Nat → Int32) (zn : Nat → Nat) (hz : ZV μ zs zn) (s : Nat) (hs : s < 4) (x y : Int32) : CA eI yX4_hasItems cX4_hasItems 4 (some .boolean) 0 [.ref 49, .int (nI s), .int x, .int y] μ (fun r μ1 => μ1 = μ ∧ ((r = nI 1 ∧ ∃ f m, x = nI f ∧ y = nI m ∧ f + m ≤ zn s) ∨ (r = nI 0 ∧ ¬ ∃ f m, x = nI f ∧ y = nI m ∧ f + m ≤ zn s))) := by
  obtain ⟨z1, z2, z3⟩ := hz s hs
  refine CT.of false (by decide) (by decide) (L := [some (.ref 49), some (.int (nI s)), some (.int x), some (.int y)]) rfl (Nat.le_of_ble_eq_true rfl) ?_
  refine g_iload_n (pc := 0) dX4_hasItems_0 rfl ?_
  refine g_if_lt (pc := 1) (tgt := 34) dX4_hasItems_1 (by decide) (fun c_1 => ?_) (fun c_1 => ?_)
  · have hno : ¬ ∃ f m, x = nI f ∧ y = nI m ∧ f + m ≤ zn s := fun ⟨a, b, h1, h2, h3⟩ => by
      rw [h1] at c_1
      exact nI_pos (by omega) c_1
    refine g_iconst (pc := 34) (v := (nI 0)) dX4_hasItems_34 (by decide) ?_
    refine g_ireturn (pc := 35) dX4_hasItems_35 rfl (by first | rfl | decide) rfl ⟨_, rfl, ?_⟩
    first | exact ⟨rfl, Or.inr ⟨rfl, hno⟩⟩ | exact ⟨rfl, Or.inl ⟨rfl, f, m, rfl, rfl, by omega⟩⟩
  · obtain ⟨f, hf, rfl⟩ := nI_of c_1
    refine g_iload_n (pc := 4) dX4_hasItems_4 rfl ?_
    refine g_if_lt (pc := 5) (tgt := 34) dX4_hasItems_5 (by decide) (fun c_5 => ?_) (fun c_5 => ?_)
    · have hno : ¬ ∃ f9 m, nI f = nI f9 ∧ y = nI m ∧ f9 + m ≤ zn s := fun ⟨a, b, h1, h2, h3⟩ => by
        rw [h2] at c_5
        exact nI_pos (by omega) c_5
      refine g_iconst (pc := 34) (v := (nI 0)) dX4_hasItems_34 (by decide) ?_
      refine g_ireturn (pc := 35) dX4_hasItems_35 rfl (by first | rfl | decide) rfl ⟨_, rfl, ?_⟩
      first | exact ⟨rfl, Or.inr ⟨rfl, hno⟩⟩ | exact ⟨rfl, Or.inl ⟨rfl, f, m, rfl, rfl, by omega⟩⟩
    · obtain ⟨m, hm, rfl⟩ := nI_of c_5
      refine g_iload_n (pc := 8) dX4_hasItems_8 rfl ?_
      refine g_aload_n (pc := 9) dX4_hasItems_9 rfl ?_
      refine a_getr (pc := 10) (q := 51) fl_X4_13 dX4_hasItems_10 (by first | assumption | rfl) rfl rfl ?_
      refine g_iload_n (pc := 13) dX4_hasItems_13 rfl ?_
      refine v_iald (pc := 14) dX4_hasItems_14 (by first | assumption | rfl) rfl (by omega) z2 ?_
      refine g_icmp_gt (pc := 15) (tgt := 34) dX4_hasItems_15 (by decide) (fun c_15 => ?_) (fun c_15 => ?_)
      · have c15 := nI_lt' (by omega) (by omega) c_15
        have hno : ¬ ∃ f9 m9, nI f = nI f9 ∧ nI m = nI m9 ∧ f9 + m9 ≤ zn s := fun ⟨a, b, h1, h2, h3⟩ => by
          have := nI_eq' (by omega) (by omega) h2
          omega
        refine g_iconst (pc := 34) (v := (nI 0)) dX4_hasItems_34 (by decide) ?_
        refine g_ireturn (pc := 35) dX4_hasItems_35 rfl (by first | rfl | decide) rfl ⟨_, rfl, ?_⟩
        first | exact ⟨rfl, Or.inr ⟨rfl, hno⟩⟩ | exact ⟨rfl, Or.inl ⟨rfl, f, m, rfl, rfl, by omega⟩⟩
      · have c15 := nI_ge' (by omega) (by omega) c_15
        refine g_iload_n (pc := 18) dX4_hasItems_18 rfl ?_
        refine g_aload_n (pc := 19) dX4_hasItems_19 rfl ?_
        refine a_getr (pc := 20) (q := 51) fl_X4_13 dX4_hasItems_20 (by first | assumption | rfl) rfl rfl ?_
        refine g_iload_n (pc := 23) dX4_hasItems_23 rfl ?_
        refine v_iald (pc := 24) dX4_hasItems_24 (by first | assumption | rfl) rfl (by omega) z2 ?_
        refine g_iload_n (pc := 25) dX4_hasItems_25 rfl ?_
        refine v_isub (pc := 26) dX4_hasItems_26 (pk_sub c15) ?_
        refine g_icmp_gt (pc := 27) (tgt := 34) dX4_hasItems_27 (by decide) (fun c_27 => ?_) (fun c_27 => ?_)
        · have c27 := nI_lt' (by omega) (by omega) c_27
          have hno : ¬ ∃ f9 m9, nI f = nI f9 ∧ nI m = nI m9 ∧ f9 + m9 ≤ zn s := fun ⟨a, b, h1, h2, h3⟩ => by
            have := nI_eq' (by omega) (by omega) h2
            have := nI_eq' (by omega) (by omega) h1
            omega
          refine g_iconst (pc := 34) (v := (nI 0)) dX4_hasItems_34 (by decide) ?_
          refine g_ireturn (pc := 35) dX4_hasItems_35 rfl (by first | rfl | decide) rfl ⟨_, rfl, ?_⟩
          first | exact ⟨rfl, Or.inr ⟨rfl, hno⟩⟩ | exact ⟨rfl, Or.inl ⟨rfl, f, m, rfl, rfl, by omega⟩⟩
        · have c27 := nI_ge' (by omega) (by omega) c_27
          refine g_iconst (pc := 30) (v := (nI 1)) dX4_hasItems_30 (by decide) ?_
          refine g_goto (pc := 31) (tgt := 35) dX4_hasItems_31 (by decide) ?_
          refine g_ireturn (pc := 35) dX4_hasItems_35 rfl (by first | rfl | decide) rfl ⟨_, rfl, ?_⟩
          first | exact ⟨rfl, Or.inr ⟨rfl, hno⟩⟩ | exact ⟨rfl, Or.inl ⟨rfl, f, m, rfl, rfl, by omega⟩⟩
