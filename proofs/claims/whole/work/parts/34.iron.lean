/-! ===== ironing: one part ===== -/
theorem nI_max0 {a b : Nat} (ha : a < 2 ^ 31) (hb : b < 2 ^ 31) : (if nI 0 < nI a - nI b then nI a - nI b else nI 0) = nI (a - b) := by
  by_cases h : b ≤ a
  · rw [pk_sub h]
    by_cases h2 : 0 < a - b
    · rw [if_pos (nI_lt h2 (by omega))]
    · rw [if_neg (nI_nlt (by omega) (by omega)), show a - b = 0 by omega]
  · rw [if_neg, show a - b = 0 by omega]
    intro q
    have q2 := Int32.lt_iff_toInt_lt.mp q
    rw [Int32.toInt_sub, nI_toInt ha, nI_toInt hb, nI_toInt (by omega)] at q2
    rw [Int.bmod_eq_of_le (by omega) (by omega)] at q2
    omega
/-- the six names' values -/
def nmF (m d h n c p : Nat) : Nat → Int32 := fun j => if j = 0 then nI m else if j = 1 then nI d else if j = 2 then nI h else if j = 3 then nI n else if j = 4 then nI c else nI p
/-- the steps leave one value, whatever stood below -/
def Pure1 (cs : List Nat) : Prop := ∀ (nm nm' g g' : Nat → Int32), (∀ j, j < 6 → nm j = nm' j) → (runF nm (0, g) cs).2 0 = (runF nm' (0, g') cs).2 0
/-- what expression e tells, by the steps Q e, in its bounds -/
def TV (Q : Nat → List Nat) (e m d h n c p : Nat) : Nat := tclip e ((runF (nmF m d h n c p) (0, fun _ => 0) (Q e)).2 0)
theorem TV_le (Q : Nat → List Nat) (e m d h n c p : Nat) : TV Q e m d h n c p ≤ 99 := tclip_le _ _
/-- the ironing's world at a minute: sb is its shirt, v what that is, Q its rule's steps -/
def IW (μ : Mem) (sb : Nat) (v : View) (Q : Nat → List Nat) : Prop := SB sb ∧ μ 35 7 = nI sb ∧ SV μ sb v ∧ (∀ e, e < 3 → CodeOK μ (v 0 2) e (Q e) ∧ Pure1 (Q e)) ∧ μ 31 2 = nI (v 0 0)
theorem CodeOK.moved {μ μ1 : Mem} {t e : Nat} {cs : List Nat} (h : CodeOK μ t e cs) (h1 : μ1 (25 + t) = μ (25 + t)) (h2 : μ1 (18 + t) = μ (18 + t)) : CodeOK μ1 t e cs := by
  obtain ⟨s0, q1, q2, q3, q4⟩ := h
  exact ⟨s0, by rw [h1]; exact q1, q2, fun j c hj => by rw [h2]; exact q3 j c hj, by rw [h2]; exact q4⟩
theorem SV.moved {μ μ1 : Mem} {sb : Nat} {v : View} (h : SV μ sb v) (hk : ∀ k, sb ≤ k → k ≤ sb + 4 → μ1 k = μ k) : SV μ1 sb v := by
  have k0 := hk sb (by omega) (by omega)
  have k1 := hk (sb + 1) (by omega) (by omega)
  have k2 := hk (sb + 2) (by omega) (by omega)
  have k3 := hk (sb + 3) (by omega) (by omega)
  have k4 := hk (sb + 4) (by omega) (by omega)
  unfold SV
  rw [k0, k1, k2, k3, k4]
  exact h
theorem IW.moved {μ μ1 : Mem} {sb : Nat} {v : View} {Q : Nat → List Nat} (h : IW μ sb v Q) (h1 : ∀ k, k < 31 → μ1 k = μ k) (h2 : μ1 31 2 = μ 31 2) (h3 : μ1 35 7 = μ 35 7) : IW μ1 sb v Q := by
  obtain ⟨q0, q1, q2, q3, q4⟩ := h
  have hb : sb < 12 := q0.f.2.2.2.2.2.2.2.2.2
  have hr := q2.2.2.1.2
  exact ⟨q0, h3.trans q1, q2.moved (fun k _ _ => h1 k (by omega)), fun e he => ⟨(q3 e he).1.moved (h1 _ (by omega)) (h1 _ (by omega)), (q3 e he).2⟩, h2.trans q4⟩
theorem IW.tv {μ μ1 : Mem} {sb : Nat} {v : View} {Q : Nat → List Nat} (h : IW μ sb v Q) (e : Nat) (he : e < 3) {m d c p : Nat} (h0 : μ1 31 0 = nI m) (h1 : μ1 31 1 = nI d) (h2 : μ1 31 2 = nI (v 0 0)) (h3 : μ1 31 3 = nI (v 2 p)) (h4 : μ1 31 4 = nI c) (h5 : μ1 31 5 = nI p) : tclip e ((runF (fun j => μ1 31 j) (0, μ1 32) (Q e)).2 0) = TV Q e m d (v 0 0) (v 2 p) c p := by
  unfold TV
  refine congrArg (tclip e) ((h.2.2.2.1 e he).2 _ _ _ _ (fun j hj => ?_))
  obtain rfl | rfl | rfl | rfl | rfl | rfl : j = 0 ∨ j = 1 ∨ j = 2 ∨ j = 3 ∨ j = 4 ∨ j = 5 := by omega
  · exact h0
  · exact h1
  · exact h2
  · exact h3
  · exact h4
  · exact h5
theorem c_X0_nameAll (sb : Nat) (v : View) (Q : Nat → List Nat) (μ : Mem) (hI : IW μ sb v Q) (m sa c p : Nat) (hm : μ 35 8 = nI m) (hsa : μ 35 9 = nI sa) (hle : sa ≤ m) (hmb : m ≤ 2000) (hc : c ≤ 99) (hpn : p < v 0 3) : CA eV yX0_nameAll cX0_nameAll 4 none 1 [.ref 35, .int (nI p), .int (nI c)] μ (fun _ μ1 => (∀ k, k ≠ 31 → μ1 k = μ k) ∧ μ1 31 0 = nI m ∧ μ1 31 1 = nI (v 0 1 - (m - sa)) ∧ μ1 31 2 = μ 31 2 ∧ μ1 31 3 = nI (v 2 p) ∧ μ1 31 4 = nI c ∧ μ1 31 5 = nI p) := by
  obtain ⟨hsb, hsh, hv, hcd, hht⟩ := id hI
  obtain ⟨hs0, hs1, hs2, hs3, hs4, hr4, hr5, hr6, hr7, hs9⟩ := hsb.f
  obtain ⟨⟨e0, b0⟩, ⟨e1, b1⟩, ⟨e2, b2⟩, ⟨e3, b3⟩, hp⟩ := id hv
  refine CT.of false (by decide) (by decide) (L := [some (.ref 35), some (.int (nI p)), some (.int (nI c)), none]) rfl (Nat.le_of_ble_eq_true rfl) ?_
  refine g_aload_n (pc := 0) dX0_nameAll_0 rfl ?_
  refine a_getr (pc := 1) (q := 16) fl_X0_30 dX0_nameAll_1 (by first | assumption | rfl) rfl rfl ?_
  refine a_getr (pc := 4) (q := 31) fl_X0_90 dX0_nameAll_4 (by first | assumption | rfl) rfl rfl ?_
  refine a_ast3 (pc := 7) dX0_nameAll_7 (by decide) rfl ?_
  refine g_aload_n (pc := 8) dX0_nameAll_8 rfl ?_
  refine g_iconst (pc := 9) (v := (nI 0)) dX0_nameAll_9 (by decide) ?_
  refine g_aload_n (pc := 10) dX0_nameAll_10 rfl ?_
  refine v_geti (pc := 11) fl_X0_84 dX0_nameAll_11 (by first | assumption | rfl) rfl hm ?_
  refine a_iast (pc := 14) dX0_nameAll_14 (by first | assumption | rfl) rfl (by first | decide | assumption | omega) ?_
  refine g_aload_n (pc := 15) dX0_nameAll_15 rfl ?_
  refine g_iconst (pc := 16) (v := (nI 1)) dX0_nameAll_16 (by decide) ?_
  refine g_iconst (pc := 17) (v := (nI 0)) dX0_nameAll_17 (by decide) ?_
  refine g_aload_n (pc := 18) dX0_nameAll_18 rfl ?_
  refine a_getd (pc := 19) fl_X0_34 dX0_nameAll_19 (by first | assumption | rfl) rfl ((congrFun (mset_ne (by omega)) 7).trans hsh) (by omega) ?_
  refine v_geti (pc := 22) fl_X0_133 dX0_nameAll_22 (by first | assumption | rfl) rfl ((congrFun (mset_ne (by omega)) 1).trans e1) ?_
  refine g_aload_n (pc := 25) dX0_nameAll_25 rfl ?_
  refine v_geti (pc := 26) fl_X0_84 dX0_nameAll_26 (by first | assumption | rfl) rfl ((congrFun (mset_ne (by omega)) 8).trans hm) ?_
  refine g_aload_n (pc := 29) dX0_nameAll_29 rfl ?_
  refine v_geti (pc := 30) fl_X0_87 dX0_nameAll_30 (by first | assumption | rfl) rfl ((congrFun (mset_ne (by omega)) 9).trans hsa) ?_
  refine v_isub (pc := 33) dX0_nameAll_33 (pk_sub (by omega)) ?_
  refine v_isub (pc := 34) dX0_nameAll_34 rfl ?_
  refine v_max (pc := 35) ml_X0_78 (by omega) (Nat.le_of_ble_eq_true rfl) dX0_nameAll_35 (nI_max0 (by omega) (by omega)) ?_
  refine a_iast (pc := 38) dX0_nameAll_38 (by first | assumption | rfl) rfl (by first | decide | assumption | omega) ?_
  refine g_aload_n (pc := 39) dX0_nameAll_39 rfl ?_
  refine g_iconst (pc := 40) (v := (nI 3)) dX0_nameAll_40 (by decide) ?_
  refine g_aload_n (pc := 41) dX0_nameAll_41 rfl ?_
  refine a_getd (pc := 42) fl_X0_34 dX0_nameAll_42 (by first | assumption | rfl) rfl ((congrFun (mset_ne (by omega)) 7).trans ((congrFun (mset_ne (by omega)) 7).trans hsh)) (by omega) ?_
  refine a_getr (pc := 45) (q := sb + 2) fl_X0_123 dX0_nameAll_45 (by first | assumption | rfl) rfl (by assumption) ?_
  refine g_iload_n (pc := 48) dX0_nameAll_48 rfl ?_
  refine v_iald (pc := 49) dX0_nameAll_49 (by first | assumption | rfl) rfl (by first | decide | assumption | omega) ((congrFun (mset_ne (by omega)) p).trans ((congrFun (mset_ne (by omega)) p).trans (hp p hpn).2.1.1)) ?_
  refine a_iast (pc := 50) dX0_nameAll_50 (by first | assumption | rfl) rfl (by first | decide | assumption | omega) ?_
  refine g_aload_n (pc := 51) dX0_nameAll_51 rfl ?_
  refine g_iconst (pc := 52) (v := (nI 4)) dX0_nameAll_52 (by decide) ?_
  refine g_iload_n (pc := 53) dX0_nameAll_53 rfl ?_
  refine a_iast (pc := 54) dX0_nameAll_54 (by first | assumption | rfl) rfl (by first | decide | assumption | omega) ?_
  refine g_aload_n (pc := 55) dX0_nameAll_55 rfl ?_
  refine g_iconst (pc := 56) (v := (nI 5)) dX0_nameAll_56 (by decide) ?_
  refine g_iload_n (pc := 57) dX0_nameAll_57 rfl ?_
  refine a_iast (pc := 58) dX0_nameAll_58 (by first | assumption | rfl) rfl (by first | decide | assumption | omega) ?_
  refine g_return (pc := 59) (x := ()) dX0_nameAll_59 rfl rfl ⟨_, rfl, ?_⟩
  refine ⟨fun k hk => ?_, ?_, ?_, ?_, ?_, ?_, ?_⟩
  · rw [mset_ne hk, mset_ne hk, mset_ne hk, mset_ne hk, mset_ne hk]
  · exact (mset_nj (by omega)).trans ((mset_nj (by omega)).trans ((mset_nj (by omega)).trans ((mset_nj (by omega)).trans mset_eq)))
  · exact (mset_nj (by omega)).trans ((mset_nj (by omega)).trans ((mset_nj (by omega)).trans mset_eq))
  · exact (mset_nj (by omega)).trans ((mset_nj (by omega)).trans ((mset_nj (by omega)).trans ((mset_nj (by omega)).trans (mset_nj (by omega)))))
  · exact (mset_nj (by omega)).trans ((mset_nj (by omega)).trans mset_eq)
  · exact (mset_nj (by omega)).trans mset_eq
  · exact mset_eq
theorem c_X0_keeps (sb : Nat) (v : View) (Q : Nat → List Nat) (μ : Mem) (hI : IW μ sb v Q) (m sa c p : Nat) (hm : μ 35 8 = nI m) (hsa : μ 35 9 = nI sa) (hle : sa ≤ m) (hmb : m ≤ 2000) (hc : c ≤ 99) (hpn : p < v 0 3) : CA eI yX0_keeps cX0_keeps 4 (some .int) 2 [.ref 35, .int (nI p), .int (nI c)] μ (fun r μ1 => r = nI (kKeeps (v 1 p) (TV Q 0 m (v 0 1 - (m - sa)) (v 0 0) (v 2 p) c p) c (v 2 p)) ∧ (∀ k, k ≠ 31 → k ≠ 32 → μ1 k = μ k) ∧ μ1 31 2 = μ 31 2) := by
  obtain ⟨hsb, hsh, hv, hcd, hht⟩ := id hI
  obtain ⟨hs0, hs1, hs2, hs3, hs4, hr4, hr5, hr6, hr7, hs9⟩ := hsb.f
  obtain ⟨⟨e0, b0⟩, ⟨e1, b1⟩, ⟨e2, b2⟩, ⟨e3, b3⟩, hp⟩ := id hv
  refine CT.of false (by decide) (by decide) (L := [some (.ref 35), some (.int (nI p)), some (.int (nI c)), none]) rfl (Nat.le_of_ble_eq_true rfl) ?_
  refine g_aload_n (pc := 0) dX0_keeps_0 rfl ?_
  refine g_iload_n (pc := 1) dX0_keeps_1 rfl ?_
  refine g_iload_n (pc := 2) dX0_keeps_2 rfl ?_
  refine a_cv2v (pc := 3) (c_X0_nameAll sb v Q μ hI m sa c p hm hsa hle hmb hc hpn) m_X0_nameAll ml_X0_113 (by omega) (by first | assumption | rfl) rfl rfl (Nat.le_of_ble_eq_true rfl) dX0_keeps_3 (fun x_3 μ_3 h_3 => ?_)
  obtain ⟨ho, n0, n1, n2, n3, n4, n5⟩ := h_3
  have hI1 : IW μ_3 sb v Q := hI.moved (fun k hk => ho k (by omega)) n2 (by rw [ho 35 (by omega)])
  have hv1 : SV μ_3 sb v := hI1.2.2.1
  have hp1 := hv1.2.2.2.2
  refine g_aload_n (pc := 6) dX0_keeps_6 rfl ?_
  refine a_getr (pc := 7) (q := 16) fl_X0_30 dX0_keeps_7 (by first | assumption | rfl) rfl rfl ?_
  refine g_aload_n (pc := 10) dX0_keeps_10 rfl ?_
  refine a_getd (pc := 11) fl_X0_34 dX0_keeps_11 (by first | assumption | rfl) rfl hI1.2.1 (by omega) ?_
  refine v_geti (pc := 14) fl_X0_117 dX0_keeps_14 (by first | assumption | rfl) rfl hv1.2.2.1.1 ?_
  refine g_iconst (pc := 17) (v := (nI 0)) dX0_keeps_17 (by decide) ?_
  refine a_cv2i (pc := 18) (c_X6_bounded (v 0 2) 0 (by omega) (by omega) (Q 0) μ_3 (hI1.2.2.2.1 0 (by omega)).1) m_X6_bounded ml_X0_120 (by omega) (by first | assumption | rfl) rfl rfl (Nat.le_of_ble_eq_true rfl) dX0_keeps_18 (fun x_18 μ_18 h_18 => ?_)
  obtain ⟨rfl, ho2⟩ := h_18
  rw [hI.tv 0 (by omega) n0 n1 (n2.trans hht) n3 n4 n5]
  have hI2 : IW μ_18 sb v Q := hI1.moved (fun k hk => ho2 k (by omega)) (by rw [ho2 31 (by omega)]) (by rw [ho2 35 (by omega)])
  have hp2 := hI2.2.2.1.2.2.2.2
  have htv := TV_le Q 0 m (v 0 1 - (m - sa)) (v 0 0) (v 2 p) c p
  refine a_ist3 (pc := 21) dX0_keeps_21 (by decide) rfl ?_
  refine g_aload_n (pc := 22) dX0_keeps_22 rfl ?_
  refine a_getd (pc := 23) fl_X0_34 dX0_keeps_23 (by first | assumption | rfl) rfl hI2.2.1 (by omega) ?_
  refine a_getr (pc := 26) (q := sb + 1) fl_X0_56 dX0_keeps_26 (by first | assumption | rfl) rfl (by assumption) ?_
  refine g_iload_n (pc := 29) dX0_keeps_29 rfl ?_
  refine v_iald (pc := 30) dX0_keeps_30 (by first | assumption | rfl) rfl (by first | decide | assumption | omega) (hp2 p hpn).1.1 ?_
  refine g_iload_n (pc := 31) dX0_keeps_31 rfl ?_
  refine g_iload_n (pc := 32) dX0_keeps_32 rfl ?_
  refine g_aload_n (pc := 33) dX0_keeps_33 rfl ?_
  refine a_getd (pc := 34) fl_X0_34 dX0_keeps_34 (by first | assumption | rfl) rfl hI2.2.1 (by omega) ?_
  refine a_getr (pc := 37) (q := sb + 2) fl_X0_123 dX0_keeps_37 (by first | assumption | rfl) rfl (by assumption) ?_
  refine g_iload_n (pc := 40) dX0_keeps_40 rfl ?_
  refine v_iald (pc := 41) dX0_keeps_41 (by first | assumption | rfl) rfl (by first | decide | assumption | omega) (hp2 p hpn).2.1.1 ?_
  refine a_cs4i (pc := 42) (c_X1_keeps _ _ _ _ (hp p hpn).1.2 htv hc (hp p hpn).2.1.2 μ_18) m_X1_keeps ml_X0_126 (by omega) (Nat.le_of_ble_eq_true rfl) dX0_keeps_42 (fun x_42 μ_42 h_42 => ?_)
  obtain ⟨rfl, hm_42⟩ := h_42
  have hm_42 := hm_42.symm
  subst hm_42
  refine g_ireturn (pc := 45) dX0_keeps_45 rfl (by first | rfl | decide) rfl ⟨_, rfl, ?_⟩
  exact ⟨rfl, fun k h1 h2 => (ho2 k h2).trans (ho k h1), (congrFun (ho2 31 (by omega)) 2).trans n2⟩
theorem c_X0_takes (sb : Nat) (v : View) (Q : Nat → List Nat) (μ : Mem) (hI : IW μ sb v Q) (m sa c p : Nat) (hm : μ 35 8 = nI m) (hsa : μ 35 9 = nI sa) (hle : sa ≤ m) (hmb : m ≤ 2000) (hc : c ≤ 99) (hpn : p < v 0 3) : CA eI yX0_takes cX0_takes 4 (some .int) 2 [.ref 35, .int (nI p), .int (nI c)] μ (fun r μ1 => r = nI (kTakes (v 1 p) (TV Q 1 m (v 0 1 - (m - sa)) (v 0 0) (v 2 p) c p) (v 2 p)) ∧ (∀ k, k ≠ 31 → k ≠ 32 → μ1 k = μ k) ∧ μ1 31 2 = μ 31 2) := by
  obtain ⟨hsb, hsh, hv, hcd, hht⟩ := id hI
  obtain ⟨hs0, hs1, hs2, hs3, hs4, hr4, hr5, hr6, hr7, hs9⟩ := hsb.f
  obtain ⟨⟨e0, b0⟩, ⟨e1, b1⟩, ⟨e2, b2⟩, ⟨e3, b3⟩, hp⟩ := id hv
  refine CT.of false (by decide) (by decide) (L := [some (.ref 35), some (.int (nI p)), some (.int (nI c)), none]) rfl (Nat.le_of_ble_eq_true rfl) ?_
  refine g_aload_n (pc := 0) dX0_takes_0 rfl ?_
  refine g_iload_n (pc := 1) dX0_takes_1 rfl ?_
  refine g_iload_n (pc := 2) dX0_takes_2 rfl ?_
  refine a_cv2v (pc := 3) (c_X0_nameAll sb v Q μ hI m sa c p hm hsa hle hmb hc hpn) m_X0_nameAll ml_X0_113 (by omega) (by first | assumption | rfl) rfl rfl (Nat.le_of_ble_eq_true rfl) dX0_takes_3 (fun x_3 μ_3 h_3 => ?_)
  obtain ⟨ho, n0, n1, n2, n3, n4, n5⟩ := h_3
  have hI1 : IW μ_3 sb v Q := hI.moved (fun k hk => ho k (by omega)) n2 (by rw [ho 35 (by omega)])
  have hv1 : SV μ_3 sb v := hI1.2.2.1
  have hp1 := hv1.2.2.2.2
  refine g_aload_n (pc := 6) dX0_takes_6 rfl ?_
  refine a_getr (pc := 7) (q := 16) fl_X0_30 dX0_takes_7 (by first | assumption | rfl) rfl rfl ?_
  refine g_aload_n (pc := 10) dX0_takes_10 rfl ?_
  refine a_getd (pc := 11) fl_X0_34 dX0_takes_11 (by first | assumption | rfl) rfl hI1.2.1 (by omega) ?_
  refine v_geti (pc := 14) fl_X0_117 dX0_takes_14 (by first | assumption | rfl) rfl hv1.2.2.1.1 ?_
  refine g_iconst (pc := 17) (v := (nI 1)) dX0_takes_17 (by decide) ?_
  refine a_cv2i (pc := 18) (c_X6_bounded (v 0 2) 1 (by omega) (by omega) (Q 1) μ_3 (hI1.2.2.2.1 1 (by omega)).1) m_X6_bounded ml_X0_120 (by omega) (by first | assumption | rfl) rfl rfl (Nat.le_of_ble_eq_true rfl) dX0_takes_18 (fun x_18 μ_18 h_18 => ?_)
  obtain ⟨rfl, ho2⟩ := h_18
  rw [hI.tv 1 (by omega) n0 n1 (n2.trans hht) n3 n4 n5]
  have hI2 : IW μ_18 sb v Q := hI1.moved (fun k hk => ho2 k (by omega)) (by rw [ho2 31 (by omega)]) (by rw [ho2 35 (by omega)])
  have hp2 := hI2.2.2.1.2.2.2.2
  have htv := TV_le Q 1 m (v 0 1 - (m - sa)) (v 0 0) (v 2 p) c p
  refine a_ist3 (pc := 21) dX0_takes_21 (by decide) rfl ?_
  refine g_aload_n (pc := 22) dX0_takes_22 rfl ?_
  refine a_getd (pc := 23) fl_X0_34 dX0_takes_23 (by first | assumption | rfl) rfl hI2.2.1 (by omega) ?_
  refine a_getr (pc := 26) (q := sb + 1) fl_X0_56 dX0_takes_26 (by first | assumption | rfl) rfl (by assumption) ?_
  refine g_iload_n (pc := 29) dX0_takes_29 rfl ?_
  refine v_iald (pc := 30) dX0_takes_30 (by first | assumption | rfl) rfl (by first | decide | assumption | omega) (hp2 p hpn).1.1 ?_
  refine g_iload_n (pc := 31) dX0_takes_31 rfl ?_
  refine g_aload_n (pc := 32) dX0_takes_32 rfl ?_
  refine a_getd (pc := 33) fl_X0_34 dX0_takes_33 (by first | assumption | rfl) rfl hI2.2.1 (by omega) ?_
  refine a_getr (pc := 36) (q := sb + 2) fl_X0_123 dX0_takes_36 (by first | assumption | rfl) rfl (by assumption) ?_
  refine g_iload_n (pc := 39) dX0_takes_39 rfl ?_
  refine v_iald (pc := 40) dX0_takes_40 (by first | assumption | rfl) rfl (by first | decide | assumption | omega) (hp2 p hpn).2.1.1 ?_
  refine a_cs3i (pc := 41) (c_X1_takes _ _ _ (hp p hpn).1.2 htv (hp p hpn).2.1.2 μ_18) m_X1_takes ml_X0_129 (by omega) (Nat.le_of_ble_eq_true rfl) dX0_takes_41 (fun x_41 μ_41 h_41 => ?_)
  obtain ⟨rfl, hm_41⟩ := h_41
  have hm_41 := hm_41.symm
  subst hm_41
  refine g_ireturn (pc := 44) dX0_takes_44 rfl (by first | rfl | decide) rfl ⟨_, rfl, ?_⟩
  exact ⟨rfl, fun k h1 h2 => (ho2 k h2).trans (ho k h1), (congrFun (ho2 31 (by omega)) 2).trans n2⟩
theorem c_X0_crumples (sb : Nat) (v : View) (Q : Nat → List Nat) (μ : Mem) (hI : IW μ sb v Q) (m sa c p : Nat) (hm : μ 35 8 = nI m) (hsa : μ 35 9 = nI sa) (hle : sa ≤ m) (hmb : m ≤ 2000) (hc : c ≤ 99) (hpn : p < v 0 3) : CA eI yX0_crumples cX0_crumples 4 (some .int) 2 [.ref 35, .int (nI p), .int (nI c)] μ (fun r μ1 => r = nI (kCrumples (v 1 p) (TV Q 2 m (v 0 1 - (m - sa)) (v 0 0) (v 2 p) c p)) ∧ (∀ k, k ≠ 31 → k ≠ 32 → μ1 k = μ k) ∧ μ1 31 2 = μ 31 2) := by
  obtain ⟨hsb, hsh, hv, hcd, hht⟩ := id hI
  obtain ⟨hs0, hs1, hs2, hs3, hs4, hr4, hr5, hr6, hr7, hs9⟩ := hsb.f
  obtain ⟨⟨e0, b0⟩, ⟨e1, b1⟩, ⟨e2, b2⟩, ⟨e3, b3⟩, hp⟩ := id hv
  refine CT.of false (by decide) (by decide) (L := [some (.ref 35), some (.int (nI p)), some (.int (nI c)), none]) rfl (Nat.le_of_ble_eq_true rfl) ?_
  refine g_aload_n (pc := 0) dX0_crumples_0 rfl ?_
  refine g_iload_n (pc := 1) dX0_crumples_1 rfl ?_
  refine g_iload_n (pc := 2) dX0_crumples_2 rfl ?_
  refine a_cv2v (pc := 3) (c_X0_nameAll sb v Q μ hI m sa c p hm hsa hle hmb hc hpn) m_X0_nameAll ml_X0_113 (by omega) (by first | assumption | rfl) rfl rfl (Nat.le_of_ble_eq_true rfl) dX0_crumples_3 (fun x_3 μ_3 h_3 => ?_)
  obtain ⟨ho, n0, n1, n2, n3, n4, n5⟩ := h_3
  have hI1 : IW μ_3 sb v Q := hI.moved (fun k hk => ho k (by omega)) n2 (by rw [ho 35 (by omega)])
  have hv1 : SV μ_3 sb v := hI1.2.2.1
  have hp1 := hv1.2.2.2.2
  refine g_aload_n (pc := 6) dX0_crumples_6 rfl ?_
  refine a_getr (pc := 7) (q := 16) fl_X0_30 dX0_crumples_7 (by first | assumption | rfl) rfl rfl ?_
  refine g_aload_n (pc := 10) dX0_crumples_10 rfl ?_
  refine a_getd (pc := 11) fl_X0_34 dX0_crumples_11 (by first | assumption | rfl) rfl hI1.2.1 (by omega) ?_
  refine v_geti (pc := 14) fl_X0_117 dX0_crumples_14 (by first | assumption | rfl) rfl hv1.2.2.1.1 ?_
  refine g_iconst (pc := 17) (v := (nI 2)) dX0_crumples_17 (by decide) ?_
  refine a_cv2i (pc := 18) (c_X6_bounded (v 0 2) 2 (by omega) (by omega) (Q 2) μ_3 (hI1.2.2.2.1 2 (by omega)).1) m_X6_bounded ml_X0_120 (by omega) (by first | assumption | rfl) rfl rfl (Nat.le_of_ble_eq_true rfl) dX0_crumples_18 (fun x_18 μ_18 h_18 => ?_)
  obtain ⟨rfl, ho2⟩ := h_18
  rw [hI.tv 2 (by omega) n0 n1 (n2.trans hht) n3 n4 n5]
  have hI2 : IW μ_18 sb v Q := hI1.moved (fun k hk => ho2 k (by omega)) (by rw [ho2 31 (by omega)]) (by rw [ho2 35 (by omega)])
  have hp2 := hI2.2.2.1.2.2.2.2
  have htv := TV_le Q 2 m (v 0 1 - (m - sa)) (v 0 0) (v 2 p) c p
  refine a_ist3 (pc := 21) dX0_crumples_21 (by decide) rfl ?_
  refine g_aload_n (pc := 22) dX0_crumples_22 rfl ?_
  refine a_getd (pc := 23) fl_X0_34 dX0_crumples_23 (by first | assumption | rfl) rfl hI2.2.1 (by omega) ?_
  refine a_getr (pc := 26) (q := sb + 1) fl_X0_56 dX0_crumples_26 (by first | assumption | rfl) rfl (by assumption) ?_
  refine g_iload_n (pc := 29) dX0_crumples_29 rfl ?_
  refine v_iald (pc := 30) dX0_crumples_30 (by first | assumption | rfl) rfl (by first | decide | assumption | omega) (hp2 p hpn).1.1 ?_
  refine g_iload_n (pc := 31) dX0_crumples_31 rfl ?_
  refine a_cs2i (pc := 32) (c_X1_crumples _ _ (hp p hpn).1.2 htv μ_18) m_X1_crumples ml_X0_132 (by omega) (Nat.le_of_ble_eq_true rfl) dX0_crumples_32 (fun x_32 μ_32 h_32 => ?_)
  obtain ⟨rfl, hm_32⟩ := h_32
  have hm_32 := hm_32.symm
  subst hm_32
  refine g_ireturn (pc := 35) dX0_crumples_35 rfl (by first | rfl | decide) rfl ⟨_, rfl, ?_⟩
  exact ⟨rfl, fun k h1 h2 => (ho2 k h2).trans (ho k h1), (congrFun (ho2 31 (by omega)) 2).trans n2⟩
