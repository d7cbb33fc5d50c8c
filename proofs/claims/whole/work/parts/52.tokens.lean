/-! ===== the reader: a token further on ===== -/
theorem TP.moved2 {μ μ1 : Mem} {tn : Nat} {tp : Nat → Nat} (h : TP μ tn tp) (h1 : μ1 33 1 = μ 33 1) (h2 : μ1 34 = μ 34) : TP μ1 tn tp := ⟨h1.trans h.1, h.2.1, fun j hj => by rw [h2]; exact h.2.2 j hj⟩
theorem wdV_6 {k : Nat} (h : k ≤ 6) : wdV k = -1 ↔ k = 6 := by
  unfold wdV
  by_cases h6 : k = 6
  · rw [if_pos h6]
    exact ⟨fun _ => h6, fun _ => rfl⟩
  · rw [if_neg h6]
    exact ⟨fun q => absurd q (nI_m1 (by omega)), fun q => absurd q h6⟩
theorem tk_end {b : Nat → Nat} {n p : Nat} (h : n ≤ p) : enA b n p = p ∧ tkA b n p = 0 := ⟨if_pos h, if_pos h⟩
theorem tk_word {b : Nat → Nat} {n p : Nat} (h : p < n) (hl : isL (b p)) : enA b n p = wE b n p ∧ tkA b n p = (if wdN b p (wE b n p - p) = 6 then kyN b p (wE b n p - p) else 3) ∧ vlA b n p = 10000 + wdN b p (wE b n p - p) :=
  ⟨(if_neg (by omega)).trans (if_pos hl), (if_neg (by omega)).trans (if_pos hl), if_pos hl⟩
theorem tk_num {b : Nat → Nat} {n p : Nat} (h : p < n) (hl : ¬ isL (b p)) (hd : isD (b p)) : enA b n p = dE b n p ∧ tkA b n p = (if 4 < dE b n p - p then 1 else 2) ∧ vlA b n p = nvS b p (dE b n p - p) :=
  ⟨((if_neg (by omega)).trans (if_neg hl)).trans (if_pos hd), ((if_neg (by omega)).trans (if_neg hl)).trans (if_pos hd), if_neg hl⟩
theorem tk_sign {b : Nat → Nat} {n p : Nat} (h : p < n) (hl : ¬ isL (b p)) (hd : ¬ isD (b p)) : enA b n p = p + 1 ∧ tkA b n p = (if isS (b p) then b p else 1) :=
  ⟨((if_neg (by omega)).trans (if_neg hl)).trans (if_neg hd), ((if_neg (by omega)).trans (if_neg hl)).trans (if_neg hd)⟩
theorem kyN_ne (b : Nat → Nat) (p m : Nat) : ¬ (kyN b p m = 2 ∨ kyN b p m = 3) := by
  unfold kyN
  repeat' split
  all_goals decide
/-- what reading a token has done -/
def ADV (μ μ1 : Mem) (n : Nat) (b : Nat → Nat) (a : Nat) : Prop := (∀ k, k ≠ 33 → μ1 k = μ k) ∧ (∀ j, j < 4 → μ1 33 j = μ 33 j) ∧ μ1 33 4 = nI (lxE b n a) ∧ μ1 33 5 = nI (lxP b n a) ∧ μ1 33 6 = nI (lxT b n a) ∧ (lxT b n a = 2 ∨ lxT b n a = 3 → μ1 33 7 = nI (lxV b n a))
theorem ADV.of {μ μ1 : Mem} {n : Nat} {b : Nat → Nat} {a p e t : Nat} (hp : lxP b n a = p) (he : enA b n p = e) (ht : tkA b n p = t) (h1 : ∀ k, k ≠ 33 → μ1 k = μ k) (h2 : ∀ j, j < 4 → μ1 33 j = μ 33 j) (h3 : μ1 33 4 = nI e) (h4 : μ1 33 5 = nI p) (h5 : μ1 33 6 = nI t) (h6 : t = 2 ∨ t = 3 → μ1 33 7 = nI (vlA b n p)) : ADV μ μ1 n b a := by
  refine ⟨h1, h2, ?_, ?_, ?_, ?_⟩
  · unfold lxE
    rw [hp, he]
    exact h3
  · rw [hp]
    exact h4
  · unfold lxT
    rw [hp, ht]
    exact h5
  · unfold lxT lxV
    rw [hp, ht]
    exact h6
theorem c_X2_advanceOverWord (μ : Mem) (n : Nat) (b : Nat → Nat) (ht : TP μ n b) (p : Nat) (hp : p < n) (h4 : μ 33 4 = nI p) (h5 : μ 33 5 = nI p) : CA eV yX2_advanceOverWord cX2_advanceOverWord 2 none 6 [.ref 33] μ (fun _ μ1 => (∀ k, k ≠ 33 → μ1 k = μ k) ∧ (∀ j, j ≠ 4 → j ≠ 6 → j ≠ 7 → μ1 33 j = μ 33 j) ∧ μ1 33 4 = nI (wE b n p) ∧ μ1 33 6 = nI (if wdN b p (wE b n p - p) = 6 then kyN b p (wE b n p - p) else 3) ∧ (¬ wdN b p (wE b n p - p) = 6 → μ1 33 7 = nI (10000 + wdN b p (wE b n p - p)))) := by
  refine CT.of false (by decide) (by decide) (L := [some (.ref 33), none]) rfl (Nat.le_of_ble_eq_true rfl) ?_
  have lp0 : ∀ (zz : Nat) (a : Nat) (ha : p ≤ a) (han : a ≤ n) (hw : lwS b (n - a) a = wE b n p) (ν : Mem) (hν : (∀ k, k ≠ 33 → ν k = μ k) ∧ (∀ j, j ≠ 4 → ν 33 j = μ 33 j) ∧ ν 33 4 = nI a), n - a = zz → WG eV yX2_advanceOverWord.cls cX2_advanceOverWord 2 none false (fun _ _ => True) 6 (mpost (fun _ μ1 => (∀ k, k ≠ 33 → μ1 k = μ k) ∧ (∀ j, j ≠ 4 → j ≠ 6 → j ≠ 7 → μ1 33 j = μ 33 j) ∧ μ1 33 4 = nI (wE b n p) ∧ μ1 33 6 = nI (if wdN b p (wE b n p - p) = 6 then kyN b p (wE b n p - p) else 3) ∧ (¬ wdN b p (wE b n p - p) = 6 → μ1 33 7 = nI (10000 + wdN b p (wE b n p - p))))) 0 0 0 [some (.ref 33), none] [] (mk ν) := by
    intro zz
    induction zz using Nat.strongRecOn with
    | ind zz ih =>
      intro a ha han hw ν hν hzz
      obtain ⟨f1, f2, q3⟩ := hν
      have ht1 := ht.moved2 (f2 1 (by omega)) (f1 34 (by omega))
      have h160 := ht.2.1
      refine g_aload_n (pc := 0) dX2_advanceOverWord_0 rfl ?_
      refine v_geti (pc := 1) fl_X2_25 dX2_advanceOverWord_1 (by first | rfl | assumption) rfl q3 ?_
      refine g_aload_n (pc := 4) dX2_advanceOverWord_4 rfl ?_
      refine v_geti (pc := 5) fl_X2_15 dX2_advanceOverWord_5 (by first | rfl | assumption) rfl ht1.1 ?_
      refine g_icmp_ge (pc := 8) (tgt := 39) dX2_advanceOverWord_8 (by decide) (fun c_8 => ?_) (fun c_8 => ?_)
      · have c8 := nI_le' (by omega) (by omega) c_8
        have hE : wE b n p = a := by
          rw [← hw, show n - a = 0 by omega]
          rfl
        clear hw
        refine g_aload_n (pc := 39) dX2_advanceOverWord_39 rfl ?_
        have hR : RP ν n b a p := ⟨ht1, q3, (f2 5 (by omega)).trans h5, ha, han⟩
        have hk6 := wdN_le b p (a - p)
        refine a_cv0i (pc := 40) (c_X2_name ν n b a p hR) m_X2_name ml_X2_83 (by omega) (by first | rfl | assumption) rfl rfl (Nat.le_of_ble_eq_true rfl) dX2_advanceOverWord_40 (fun x_40 μ_40 h_40 => ?_)
        obtain ⟨rfl, hm_40⟩ := h_40
        have hm_40 := hm_40.symm
        subst hm_40
        refine a_ist1 (pc := 43) dX2_advanceOverWord_43 (by decide) rfl ?_
        refine g_aload_n (pc := 44) dX2_advanceOverWord_44 rfl ?_
        refine g_sipush (pc := 45) (v := (nI 10000)) dX2_advanceOverWord_45 (by decide) ?_
        refine g_iload_n (pc := 48) dX2_advanceOverWord_48 rfl ?_
        refine v_iadd (pc := 49) dX2_advanceOverWord_49 rfl ?_
        refine a_puti (pc := 50) fw_X2_65 dX2_advanceOverWord_50 (by first | rfl | assumption) rfl ?_
        refine g_aload_n (pc := 53) dX2_advanceOverWord_53 rfl ?_
        refine g_iload_n (pc := 54) dX2_advanceOverWord_54 rfl ?_
        refine g_iconst (pc := 55) (v := (-1)) dX2_advanceOverWord_55 (by decide) ?_
        refine g_icmp_ne (pc := 56) (tgt := 66) dX2_advanceOverWord_56 (by decide) (fun c_56 => ?_) (fun c_56 => ?_)
        · have c56 : ¬ wdN b p (a - p) = 6 := fun h => c_56 ((wdV_6 hk6).mpr h)
          refine g_iconst (pc := 66) (v := (nI 3)) dX2_advanceOverWord_66 (by decide) ?_
          refine a_puti (pc := 67) fw_X2_33 dX2_advanceOverWord_67 (by first | rfl | assumption) rfl ?_
          refine g_return (pc := 70) (x := ()) dX2_advanceOverWord_70 rfl rfl ⟨_, rfl, ?_⟩
          refine ⟨fun k hk => ?_, fun j h1 h2 h3 => ?_, ?_, ?_, fun h => ?_⟩
          · rw [mset_ne hk, mset_ne hk]
            exact f1 k hk
          · rw [mset_nj h2, mset_nj h3]
            exact f2 j h1
          · rw [mset_nj (by omega), mset_nj (by omega), hE]
            exact q3
          · rw [mset_eq, hE]
            first | rw [if_pos c56] | rw [if_neg c56]
          · rw [mset_nj (by omega), mset_eq, hE]
            rw [hE] at h
            unfold wdV
            rw [if_neg h, nI_add]
        · have c56 : wdN b p (a - p) = 6 := (wdV_6 hk6).mp c_56
          have hR2 : RP (mset ν 33 7 (nI 10000 + wdV (wdN b p (a - p)))) n b a p := ⟨ht1.moved2 (mset_nj (by omega)) (mset_ne (by omega)), (mset_nj (by omega)).trans q3, (mset_nj (by omega)).trans ((f2 5 (by omega)).trans h5), ha, han⟩
          refine g_aload_n (pc := 59) dX2_advanceOverWord_59 rfl ?_
          refine a_cv0i (pc := 60) (c_X2_key _ n b a p hR2) m_X2_key ml_X2_87 (by omega) (by first | rfl | assumption) rfl rfl (Nat.le_of_ble_eq_true rfl) dX2_advanceOverWord_60 (fun x_60 μ_60 h_60 => ?_)
          obtain ⟨rfl, hm_60⟩ := h_60
          have hm_60 := hm_60.symm
          subst hm_60
          refine g_goto (pc := 63) (tgt := 67) dX2_advanceOverWord_63 (by decide) ?_
          refine a_puti (pc := 67) fw_X2_33 dX2_advanceOverWord_67 (by first | rfl | assumption) rfl ?_
          refine g_return (pc := 70) (x := ()) dX2_advanceOverWord_70 rfl rfl ⟨_, rfl, ?_⟩
          refine ⟨fun k hk => ?_, fun j h1 h2 h3 => ?_, ?_, ?_, fun h => ?_⟩
          · rw [mset_ne hk, mset_ne hk]
            exact f1 k hk
          · rw [mset_nj h2, mset_nj h3]
            exact f2 j h1
          · rw [mset_nj (by omega), mset_nj (by omega), hE]
            exact q3
          · rw [mset_eq, hE]
            first | rw [if_pos c56] | rw [if_neg c56]
          · rw [mset_nj (by omega), mset_eq, hE]
            rw [hE] at h
            unfold wdV
            rw [if_neg h, nI_add]
      · have c8 := nI_gt' (by omega) (by omega) c_8
        refine g_aload_n (pc := 11) dX2_advanceOverWord_11 rfl ?_
        refine a_getr (pc := 12) (q := 34) fl_X2_9 dX2_advanceOverWord_12 (by first | rfl | assumption) rfl rfl ?_
        refine g_aload_n (pc := 15) dX2_advanceOverWord_15 rfl ?_
        refine v_geti (pc := 16) fl_X2_25 dX2_advanceOverWord_16 (by first | rfl | assumption) rfl q3 ?_
        refine v_iald (pc := 19) dX2_advanceOverWord_19 (by first | rfl | assumption) rfl (by omega) (ht1.2.2 a c8).1 ?_
        refine a_cs1i (pc := 20) (c_X2_isLetter (b a) (ht1.2.2 a c8).2 ν) m_X2_isLetter ml_X2_68 (by omega) (Nat.le_of_ble_eq_true rfl) dX2_advanceOverWord_20 (fun x_20 μ_20 h_20 => ?_)
        obtain ⟨hm_20, hd_20⟩ := h_20
        have hm_20 := hm_20.symm
        subst hm_20
        refine g_if_eq (pc := 23) (tgt := 39) dX2_advanceOverWord_23 (by decide) (fun c_23 => ?_) (fun c_23 => ?_)
        · have c23 := (hd_20.resolve_left (fun q => absurd (q.1.symm.trans c_23) (by decide))).2
          have hE : wE b n p = a := by
            rw [← hw, show n - a = (n - a - 1) + 1 by omega, lwS, if_neg c23]
          clear hw
          refine g_aload_n (pc := 39) dX2_advanceOverWord_39 rfl ?_
          have hR : RP ν n b a p := ⟨ht1, q3, (f2 5 (by omega)).trans h5, ha, han⟩
          have hk6 := wdN_le b p (a - p)
          refine a_cv0i (pc := 40) (c_X2_name ν n b a p hR) m_X2_name ml_X2_83 (by omega) (by first | rfl | assumption) rfl rfl (Nat.le_of_ble_eq_true rfl) dX2_advanceOverWord_40 (fun x_40 μ_40 h_40 => ?_)
          obtain ⟨rfl, hm_40⟩ := h_40
          have hm_40 := hm_40.symm
          subst hm_40
          refine a_ist1 (pc := 43) dX2_advanceOverWord_43 (by decide) rfl ?_
          refine g_aload_n (pc := 44) dX2_advanceOverWord_44 rfl ?_
          refine g_sipush (pc := 45) (v := (nI 10000)) dX2_advanceOverWord_45 (by decide) ?_
          refine g_iload_n (pc := 48) dX2_advanceOverWord_48 rfl ?_
          refine v_iadd (pc := 49) dX2_advanceOverWord_49 rfl ?_
          refine a_puti (pc := 50) fw_X2_65 dX2_advanceOverWord_50 (by first | rfl | assumption) rfl ?_
          refine g_aload_n (pc := 53) dX2_advanceOverWord_53 rfl ?_
          refine g_iload_n (pc := 54) dX2_advanceOverWord_54 rfl ?_
          refine g_iconst (pc := 55) (v := (-1)) dX2_advanceOverWord_55 (by decide) ?_
          refine g_icmp_ne (pc := 56) (tgt := 66) dX2_advanceOverWord_56 (by decide) (fun c_56 => ?_) (fun c_56 => ?_)
          · have c56 : ¬ wdN b p (a - p) = 6 := fun h => c_56 ((wdV_6 hk6).mpr h)
            refine g_iconst (pc := 66) (v := (nI 3)) dX2_advanceOverWord_66 (by decide) ?_
            refine a_puti (pc := 67) fw_X2_33 dX2_advanceOverWord_67 (by first | rfl | assumption) rfl ?_
            refine g_return (pc := 70) (x := ()) dX2_advanceOverWord_70 rfl rfl ⟨_, rfl, ?_⟩
            refine ⟨fun k hk => ?_, fun j h1 h2 h3 => ?_, ?_, ?_, fun h => ?_⟩
            · rw [mset_ne hk, mset_ne hk]
              exact f1 k hk
            · rw [mset_nj h2, mset_nj h3]
              exact f2 j h1
            · rw [mset_nj (by omega), mset_nj (by omega), hE]
              exact q3
            · rw [mset_eq, hE]
              first | rw [if_pos c56] | rw [if_neg c56]
            · rw [mset_nj (by omega), mset_eq, hE]
              rw [hE] at h
              unfold wdV
              rw [if_neg h, nI_add]
          · have c56 : wdN b p (a - p) = 6 := (wdV_6 hk6).mp c_56
            have hR2 : RP (mset ν 33 7 (nI 10000 + wdV (wdN b p (a - p)))) n b a p := ⟨ht1.moved2 (mset_nj (by omega)) (mset_ne (by omega)), (mset_nj (by omega)).trans q3, (mset_nj (by omega)).trans ((f2 5 (by omega)).trans h5), ha, han⟩
            refine g_aload_n (pc := 59) dX2_advanceOverWord_59 rfl ?_
            refine a_cv0i (pc := 60) (c_X2_key _ n b a p hR2) m_X2_key ml_X2_87 (by omega) (by first | rfl | assumption) rfl rfl (Nat.le_of_ble_eq_true rfl) dX2_advanceOverWord_60 (fun x_60 μ_60 h_60 => ?_)
            obtain ⟨rfl, hm_60⟩ := h_60
            have hm_60 := hm_60.symm
            subst hm_60
            refine g_goto (pc := 63) (tgt := 67) dX2_advanceOverWord_63 (by decide) ?_
            refine a_puti (pc := 67) fw_X2_33 dX2_advanceOverWord_67 (by first | rfl | assumption) rfl ?_
            refine g_return (pc := 70) (x := ()) dX2_advanceOverWord_70 rfl rfl ⟨_, rfl, ?_⟩
            refine ⟨fun k hk => ?_, fun j h1 h2 h3 => ?_, ?_, ?_, fun h => ?_⟩
            · rw [mset_ne hk, mset_ne hk]
              exact f1 k hk
            · rw [mset_nj h2, mset_nj h3]
              exact f2 j h1
            · rw [mset_nj (by omega), mset_nj (by omega), hE]
              exact q3
            · rw [mset_eq, hE]
              first | rw [if_pos c56] | rw [if_neg c56]
            · rw [mset_nj (by omega), mset_eq, hE]
              rw [hE] at h
              unfold wdV
              rw [if_neg h, nI_add]
        · have c23 := (hd_20.resolve_right (fun q => c_23 q.1)).2
          have hw2 : lwS b (n - (a + 1)) (a + 1) = wE b n p := by
            rw [← hw, show n - a = (n - (a + 1)) + 1 by omega, lwS, if_pos c23]
          refine g_aload_n (pc := 26) dX2_advanceOverWord_26 rfl ?_
          refine g_dup (pc := 27) dX2_advanceOverWord_27 rfl ?_
          refine v_geti (pc := 28) fl_X2_25 dX2_advanceOverWord_28 (by first | rfl | assumption) rfl q3 ?_
          refine g_iconst (pc := 31) (v := (nI 1)) dX2_advanceOverWord_31 (by decide) ?_
          refine v_iadd (pc := 32) dX2_advanceOverWord_32 (nI_succ a).symm ?_
          refine a_puti (pc := 33) fw_X2_25 dX2_advanceOverWord_33 (by first | rfl | assumption) rfl ?_
          refine g_goto (pc := 36) (tgt := 0) dX2_advanceOverWord_36 (by decide) ?_
          exact ih (n - (a + 1)) (by omega) (a + 1) (by omega) (by omega) hw2 _ ⟨fun k hk => (mset_ne hk).trans (f1 k hk), fun j hj => (mset_nj hj).trans (f2 j hj), mset_eq⟩ rfl
  exact lp0 _ p (Nat.le_refl _) (by omega) rfl _ ⟨fun k _ => rfl, fun j _ => rfl, h4⟩ rfl
theorem c_X2_advanceOverNumber (μ : Mem) (n : Nat) (b : Nat → Nat) (ht : TP μ n b) (p : Nat) (hp : p < n) (h4 : μ 33 4 = nI p) (h5 : μ 33 5 = nI p) : CA eV yX2_advanceOverNumber cX2_advanceOverNumber 1 none 6 [.ref 33] μ (fun _ μ1 => (∀ k, k ≠ 33 → μ1 k = μ k) ∧ (∀ j, j ≠ 4 → j ≠ 6 → j ≠ 7 → μ1 33 j = μ 33 j) ∧ μ1 33 4 = nI (dE b n p) ∧ μ1 33 6 = nI (if 4 < dE b n p - p then 1 else 2) ∧ μ1 33 7 = nI (nvS b p (dE b n p - p))) := by
  refine CT.of false (by decide) (by decide) (L := [some (.ref 33)]) rfl (Nat.le_of_ble_eq_true rfl) ?_
  refine g_aload_n (pc := 0) dX2_advanceOverNumber_0 rfl ?_
  refine g_iconst (pc := 1) (v := (nI 0)) dX2_advanceOverNumber_1 (by decide) ?_
  refine a_puti (pc := 2) fw_X2_65 dX2_advanceOverNumber_2 (by first | rfl | assumption) rfl ?_
  have lp5 : ∀ (zz : Nat) (a : Nat) (ha : p ≤ a) (han : a ≤ n) (hw : dgS b (n - a) a = dE b n p) (ν : Mem) (hν : (∀ k, k ≠ 33 → ν k = μ k) ∧ (∀ j, j ≠ 4 → j ≠ 7 → ν 33 j = μ 33 j) ∧ ν 33 4 = nI a ∧ ν 33 7 = nI (nvS b p (a - p))), n - a = zz → WG eV yX2_advanceOverNumber.cls cX2_advanceOverNumber 1 none false (fun _ _ => True) 6 (mpost (fun _ μ1 => (∀ k, k ≠ 33 → μ1 k = μ k) ∧ (∀ j, j ≠ 4 → j ≠ 6 → j ≠ 7 → μ1 33 j = μ 33 j) ∧ μ1 33 4 = nI (dE b n p) ∧ μ1 33 6 = nI (if 4 < dE b n p - p then 1 else 2) ∧ μ1 33 7 = nI (nvS b p (dE b n p - p)))) 0 0 5 [some (.ref 33)] [] (mk ν) := by
    intro zz
    induction zz using Nat.strongRecOn with
    | ind zz ih =>
      intro a ha han hw ν hν hzz
      obtain ⟨f1, f2, q3, q4⟩ := hν
      have ht1 := ht.moved2 (f2 1 (by omega) (by omega)) (f1 34 (by omega))
      have h160 := ht.2.1
      refine g_aload_n (pc := 5) dX2_advanceOverNumber_5 rfl ?_
      refine v_geti (pc := 6) fl_X2_25 dX2_advanceOverNumber_6 (by first | rfl | assumption) rfl q3 ?_
      refine g_aload_n (pc := 9) dX2_advanceOverNumber_9 rfl ?_
      refine v_geti (pc := 10) fl_X2_15 dX2_advanceOverNumber_10 (by first | rfl | assumption) rfl ht1.1 ?_
      refine g_icmp_ge (pc := 13) (tgt := 68) dX2_advanceOverNumber_13 (by decide) (fun c_13 => ?_) (fun c_13 => ?_)
      · have c13 := nI_le' (by omega) (by omega) c_13
        have hE : dE b n p = a := by
          rw [← hw, show n - a = 0 by omega]
          rfl
        clear hw
        refine g_aload_n (pc := 68) dX2_advanceOverNumber_68 rfl ?_
        refine g_aload_n (pc := 69) dX2_advanceOverNumber_69 rfl ?_
        refine v_geti (pc := 70) fl_X2_25 dX2_advanceOverNumber_70 (by first | rfl | assumption) rfl q3 ?_
        refine g_aload_n (pc := 73) dX2_advanceOverNumber_73 rfl ?_
        refine v_geti (pc := 74) fl_X2_36 dX2_advanceOverNumber_74 (by first | rfl | assumption) rfl ((f2 5 (by omega) (by omega)).trans h5) ?_
        refine v_isub (pc := 77) dX2_advanceOverNumber_77 (pk_sub ha) ?_
        refine g_iconst (pc := 78) (v := (nI 4)) dX2_advanceOverNumber_78 (by decide) ?_
        refine g_icmp_le (pc := 79) (tgt := 86) dX2_advanceOverNumber_79 (by decide) (fun c_79 => ?_) (fun c_79 => ?_)
        · have c79 : ¬ 4 < a - p := Nat.not_lt.mpr (nI_le' (by omega) (by omega) c_79)
          refine g_iconst (pc := 86) (v := (nI 2)) dX2_advanceOverNumber_86 (by decide) ?_
          refine a_puti (pc := 87) fw_X2_33 dX2_advanceOverNumber_87 (by first | rfl | assumption) rfl ?_
          refine g_return (pc := 90) (x := ()) dX2_advanceOverNumber_90 rfl rfl ⟨_, rfl, ?_⟩
          refine ⟨fun k hk => (mset_ne hk).trans (f1 k hk), fun j h1 h2 h3 => (mset_nj h2).trans (f2 j h1 h3), ?_, ?_, ?_⟩
          · rw [mset_nj (by omega), hE]
            exact q3
          · rw [mset_eq, hE]
            first | rw [if_pos c79] | rw [if_neg c79]
          · rw [mset_nj (by omega), hE]
            exact q4
        · have c79 : 4 < a - p := nI_gt' (by omega) (by omega) c_79
          refine g_iconst (pc := 82) (v := (nI 1)) dX2_advanceOverNumber_82 (by decide) ?_
          refine g_goto (pc := 83) (tgt := 87) dX2_advanceOverNumber_83 (by decide) ?_
          refine a_puti (pc := 87) fw_X2_33 dX2_advanceOverNumber_87 (by first | rfl | assumption) rfl ?_
          refine g_return (pc := 90) (x := ()) dX2_advanceOverNumber_90 rfl rfl ⟨_, rfl, ?_⟩
          refine ⟨fun k hk => (mset_ne hk).trans (f1 k hk), fun j h1 h2 h3 => (mset_nj h2).trans (f2 j h1 h3), ?_, ?_, ?_⟩
          · rw [mset_nj (by omega), hE]
            exact q3
          · rw [mset_eq, hE]
            first | rw [if_pos c79] | rw [if_neg c79]
          · rw [mset_nj (by omega), hE]
            exact q4
      · have c13 := nI_gt' (by omega) (by omega) c_13
        refine g_aload_n (pc := 16) dX2_advanceOverNumber_16 rfl ?_
        refine a_getr (pc := 17) (q := 34) fl_X2_9 dX2_advanceOverNumber_17 (by first | rfl | assumption) rfl rfl ?_
        refine g_aload_n (pc := 20) dX2_advanceOverNumber_20 rfl ?_
        refine v_geti (pc := 21) fl_X2_25 dX2_advanceOverNumber_21 (by first | rfl | assumption) rfl q3 ?_
        refine v_iald (pc := 24) dX2_advanceOverNumber_24 (by first | rfl | assumption) rfl (by omega) (ht1.2.2 a c13).1 ?_
        refine a_cs1i (pc := 25) (c_X2_isDigit (b a) (ht1.2.2 a c13).2 ν) m_X2_isDigit ml_X2_74 (by omega) (Nat.le_of_ble_eq_true rfl) dX2_advanceOverNumber_25 (fun x_25 μ_25 h_25 => ?_)
        obtain ⟨hm_25, hd_25⟩ := h_25
        have hm_25 := hm_25.symm
        subst hm_25
        refine g_if_eq (pc := 28) (tgt := 68) dX2_advanceOverNumber_28 (by decide) (fun c_28 => ?_) (fun c_28 => ?_)
        · have c28 := (hd_25.resolve_left (fun q => absurd (q.1.symm.trans c_28) (by decide))).2
          have hE : dE b n p = a := by
            rw [← hw, show n - a = (n - a - 1) + 1 by omega, dgS, if_neg c28]
          clear hw
          refine g_aload_n (pc := 68) dX2_advanceOverNumber_68 rfl ?_
          refine g_aload_n (pc := 69) dX2_advanceOverNumber_69 rfl ?_
          refine v_geti (pc := 70) fl_X2_25 dX2_advanceOverNumber_70 (by first | rfl | assumption) rfl q3 ?_
          refine g_aload_n (pc := 73) dX2_advanceOverNumber_73 rfl ?_
          refine v_geti (pc := 74) fl_X2_36 dX2_advanceOverNumber_74 (by first | rfl | assumption) rfl ((f2 5 (by omega) (by omega)).trans h5) ?_
          refine v_isub (pc := 77) dX2_advanceOverNumber_77 (pk_sub ha) ?_
          refine g_iconst (pc := 78) (v := (nI 4)) dX2_advanceOverNumber_78 (by decide) ?_
          refine g_icmp_le (pc := 79) (tgt := 86) dX2_advanceOverNumber_79 (by decide) (fun c_79 => ?_) (fun c_79 => ?_)
          · have c79 : ¬ 4 < a - p := Nat.not_lt.mpr (nI_le' (by omega) (by omega) c_79)
            refine g_iconst (pc := 86) (v := (nI 2)) dX2_advanceOverNumber_86 (by decide) ?_
            refine a_puti (pc := 87) fw_X2_33 dX2_advanceOverNumber_87 (by first | rfl | assumption) rfl ?_
            refine g_return (pc := 90) (x := ()) dX2_advanceOverNumber_90 rfl rfl ⟨_, rfl, ?_⟩
            refine ⟨fun k hk => (mset_ne hk).trans (f1 k hk), fun j h1 h2 h3 => (mset_nj h2).trans (f2 j h1 h3), ?_, ?_, ?_⟩
            · rw [mset_nj (by omega), hE]
              exact q3
            · rw [mset_eq, hE]
              first | rw [if_pos c79] | rw [if_neg c79]
            · rw [mset_nj (by omega), hE]
              exact q4
          · have c79 : 4 < a - p := nI_gt' (by omega) (by omega) c_79
            refine g_iconst (pc := 82) (v := (nI 1)) dX2_advanceOverNumber_82 (by decide) ?_
            refine g_goto (pc := 83) (tgt := 87) dX2_advanceOverNumber_83 (by decide) ?_
            refine a_puti (pc := 87) fw_X2_33 dX2_advanceOverNumber_87 (by first | rfl | assumption) rfl ?_
            refine g_return (pc := 90) (x := ()) dX2_advanceOverNumber_90 rfl rfl ⟨_, rfl, ?_⟩
            refine ⟨fun k hk => (mset_ne hk).trans (f1 k hk), fun j h1 h2 h3 => (mset_nj h2).trans (f2 j h1 h3), ?_, ?_, ?_⟩
            · rw [mset_nj (by omega), hE]
              exact q3
            · rw [mset_eq, hE]
              first | rw [if_pos c79] | rw [if_neg c79]
            · rw [mset_nj (by omega), hE]
              exact q4
        · have c28 := (hd_25.resolve_right (fun q => c_28 q.1)).2
          have hw2 : dgS b (n - (a + 1)) (a + 1) = dE b n p := by
            rw [← hw, show n - a = (n - (a + 1)) + 1 by omega, dgS, if_pos c28]
          refine g_aload_n (pc := 31) dX2_advanceOverNumber_31 rfl ?_
          refine g_aload_n (pc := 32) dX2_advanceOverNumber_32 rfl ?_
          refine v_geti (pc := 33) fl_X2_65 dX2_advanceOverNumber_33 (by first | rfl | assumption) rfl q4 ?_
          refine g_bipush (pc := 36) (v := (nI 10)) dX2_advanceOverNumber_36 (by decide) ?_
          refine v_imul (pc := 38) dX2_advanceOverNumber_38 (pk_mul _ 10) ?_
          refine g_aload_n (pc := 39) dX2_advanceOverNumber_39 rfl ?_
          refine a_getr (pc := 40) (q := 34) fl_X2_9 dX2_advanceOverNumber_40 (by first | rfl | assumption) rfl rfl ?_
          refine g_aload_n (pc := 43) dX2_advanceOverNumber_43 rfl ?_
          refine v_geti (pc := 44) fl_X2_25 dX2_advanceOverNumber_44 (by first | rfl | assumption) rfl q3 ?_
          refine v_iald (pc := 47) dX2_advanceOverNumber_47 (by first | rfl | assumption) rfl (by omega) (ht1.2.2 a c13).1 ?_
          refine v_iadd (pc := 48) dX2_advanceOverNumber_48 (nI_add _ _) ?_
          refine g_bipush (pc := 49) (v := (nI 48)) dX2_advanceOverNumber_49 (by decide) ?_
          refine v_isub (pc := 51) dX2_advanceOverNumber_51 (pk_sub (by omega)) ?_
          refine a_puti (pc := 52) fw_X2_65 dX2_advanceOverNumber_52 (by first | rfl | assumption) rfl ?_
          refine g_aload_n (pc := 55) dX2_advanceOverNumber_55 rfl ?_
          refine g_dup (pc := 56) dX2_advanceOverNumber_56 rfl ?_
          refine v_geti (pc := 57) fl_X2_25 dX2_advanceOverNumber_57 (by first | rfl | assumption) rfl ((mset_nj (by omega)).trans q3) ?_
          refine g_iconst (pc := 60) (v := (nI 1)) dX2_advanceOverNumber_60 (by decide) ?_
          refine v_iadd (pc := 61) dX2_advanceOverNumber_61 (nI_succ a).symm ?_
          refine a_puti (pc := 62) fw_X2_25 dX2_advanceOverNumber_62 (by first | rfl | assumption) rfl ?_
          refine g_goto (pc := 65) (tgt := 5) dX2_advanceOverNumber_65 (by decide) ?_
          exact ih (n - (a + 1)) (by omega) (a + 1) (by omega) (by omega) hw2 _ ⟨fun k hk => by
              rw [mset_ne hk, mset_ne hk]
              exact f1 k hk, fun j hj hj2 => by
              rw [mset_nj hj, mset_nj hj2]
              exact f2 j hj hj2, mset_eq, by
              rw [mset_nj (by omega), mset_eq, show a + 1 - p = (a - p) + 1 by omega, nvS, show p + (a - p) = a by omega]⟩ rfl
  exact lp5 _ p (Nat.le_refl _) (by omega) rfl _ ⟨fun k hk => mset_ne hk, fun j _ hj => mset_nj hj, (mset_nj (by omega)).trans h4, by rw [mset_eq, Nat.sub_self]; rfl⟩ rfl
theorem c_X2_advance (μ : Mem) (n : Nat) (b : Nat → Nat) (ht : TP μ n b) (a0 : Nat) (hn : a0 ≤ n) (h4 : μ 33 4 = nI a0) : CA eV yX2_advance cX2_advance 1 none 7 [.ref 33] μ (fun _ μ1 => ADV μ μ1 n b a0) := by
  refine CT.of false (by decide) (by decide) (L := [some (.ref 33)]) rfl (Nat.le_of_ble_eq_true rfl) ?_
  have lp0 : ∀ (zz : Nat) (a : Nat) (ha : a0 ≤ a) (han : a ≤ n) (hw : skS b (n - a) a = lxP b n a0) (ν : Mem) (hν : (∀ k, k ≠ 33 → ν k = μ k) ∧ (∀ j, j ≠ 4 → ν 33 j = μ 33 j) ∧ ν 33 4 = nI a), n - a = zz → WG eV yX2_advance.cls cX2_advance 1 none false (fun _ _ => True) 7 (mpost (fun _ μ1 => ADV μ μ1 n b a0)) 0 0 0 [some (.ref 33)] [] (mk ν) := by
    intro zz
    induction zz using Nat.strongRecOn with
    | ind zz ih =>
      intro a ha han hw ν hν hzz
      obtain ⟨f1, f2, q3⟩ := hν
      have ht1 := ht.moved2 (f2 1 (by omega)) (f1 34 (by omega))
      have h160 := ht.2.1
      have ht2 : TP (mset ν 33 5 (nI a)) n b := ht1.moved2 (mset_nj (by omega)) (mset_ne (by omega))
      refine g_aload_n (pc := 0) dX2_advance_0 rfl ?_
      refine v_geti (pc := 1) fl_X2_25 dX2_advance_1 (by first | rfl | assumption) rfl q3 ?_
      refine g_aload_n (pc := 4) dX2_advance_4 rfl ?_
      refine v_geti (pc := 5) fl_X2_15 dX2_advance_5 (by first | rfl | assumption) rfl ht1.1 ?_
      refine g_icmp_ge (pc := 8) (tgt := 52) dX2_advance_8 (by decide) (fun c_8 => ?_) (fun c_8 => ?_)
      · have c8 := nI_le' (by omega) (by omega) c_8
        have hE : lxP b n a0 = a := by
          rw [← hw, show n - a = 0 by omega]
          rfl
        clear hw
        refine g_aload_n (pc := 52) dX2_advance_52 rfl ?_
        refine g_aload_n (pc := 53) dX2_advance_53 rfl ?_
        refine v_geti (pc := 54) fl_X2_25 dX2_advance_54 (by first | rfl | assumption) rfl q3 ?_
        refine a_puti (pc := 57) fw_X2_36 dX2_advance_57 (by first | rfl | assumption) rfl ?_
        refine g_aload_n (pc := 60) dX2_advance_60 rfl ?_
        refine v_geti (pc := 61) fl_X2_25 dX2_advance_61 (by first | rfl | assumption) rfl ((mset_nj (by omega)).trans q3) ?_
        refine g_aload_n (pc := 64) dX2_advance_64 rfl ?_
        refine v_geti (pc := 65) fl_X2_15 dX2_advance_65 (by first | rfl | assumption) rfl ht2.1 ?_
        refine g_icmp_lt (pc := 68) (tgt := 79) dX2_advance_68 (by decide) (fun c_68 => ?_) (fun c_68 => ?_)
        · have c68 := nI_lt' (by omega) (by omega) c_68
          refine g_aload_n (pc := 79) dX2_advance_79 rfl ?_
          refine a_getr (pc := 80) (q := 34) fl_X2_9 dX2_advance_80 (by first | rfl | assumption) rfl rfl ?_
          refine g_aload_n (pc := 83) dX2_advance_83 rfl ?_
          refine v_geti (pc := 84) fl_X2_25 dX2_advance_84 (by first | rfl | assumption) rfl ((mset_nj (by omega)).trans q3) ?_
          refine v_iald (pc := 87) dX2_advance_87 (by first | rfl | assumption) rfl (by omega) (ht2.2.2 a c68).1 ?_
          refine a_cs1i (pc := 88) (c_X2_isLetter (b a) (ht2.2.2 a c68).2 (mset ν 33 5 (nI a))) m_X2_isLetter ml_X2_68 (by omega) (Nat.le_of_ble_eq_true rfl) dX2_advance_88 (fun x_88 μ_88 h_88 => ?_)
          obtain ⟨hm_88, hd_88⟩ := h_88
          have hm_88 := hm_88.symm
          subst hm_88
          refine g_if_eq (pc := 91) (tgt := 101) dX2_advance_91 (by decide) (fun c_91 => ?_) (fun c_91 => ?_)
          · have c91 := (hd_88.resolve_left (fun q => absurd (q.1.symm.trans c_91) (by decide))).2
            refine g_aload_n (pc := 101) dX2_advance_101 rfl ?_
            refine a_getr (pc := 102) (q := 34) fl_X2_9 dX2_advance_102 (by first | rfl | assumption) rfl rfl ?_
            refine g_aload_n (pc := 105) dX2_advance_105 rfl ?_
            refine v_geti (pc := 106) fl_X2_25 dX2_advance_106 (by first | rfl | assumption) rfl ((mset_nj (by omega)).trans q3) ?_
            refine v_iald (pc := 109) dX2_advance_109 (by first | rfl | assumption) rfl (by omega) (ht2.2.2 a c68).1 ?_
            refine a_cs1i (pc := 110) (c_X2_isDigit (b a) (ht2.2.2 a c68).2 (mset ν 33 5 (nI a))) m_X2_isDigit ml_X2_74 (by omega) (Nat.le_of_ble_eq_true rfl) dX2_advance_110 (fun x_110 μ_110 h_110 => ?_)
            obtain ⟨hm_110, hd_110⟩ := h_110
            have hm_110 := hm_110.symm
            subst hm_110
            refine g_if_eq (pc := 113) (tgt := 123) dX2_advance_113 (by decide) (fun c_113 => ?_) (fun c_113 => ?_)
            · have c113 := (hd_110.resolve_left (fun q => absurd (q.1.symm.trans c_113) (by decide))).2
              refine g_aload_n (pc := 123) dX2_advance_123 rfl ?_
              refine g_aload_n (pc := 124) dX2_advance_124 rfl ?_
              refine a_getr (pc := 125) (q := 34) fl_X2_9 dX2_advance_125 (by first | rfl | assumption) rfl rfl ?_
              refine g_aload_n (pc := 128) dX2_advance_128 rfl ?_
              refine v_geti (pc := 129) fl_X2_25 dX2_advance_129 (by first | rfl | assumption) rfl ((mset_nj (by omega)).trans q3) ?_
              refine v_iald (pc := 132) dX2_advance_132 (by first | rfl | assumption) rfl (by omega) (ht2.2.2 a c68).1 ?_
              refine a_cs1i (pc := 133) (c_X2_isSign (b a) (ht2.2.2 a c68).2 (mset ν 33 5 (nI a))) m_X2_isSign ml_X2_80 (by omega) (Nat.le_of_ble_eq_true rfl) dX2_advance_133 (fun x_133 μ_133 h_133 => ?_)
              obtain ⟨hm_133, hd_133⟩ := h_133
              have hm_133 := hm_133.symm
              subst hm_133
              refine g_if_eq (pc := 136) (tgt := 151) dX2_advance_136 (by decide) (fun c_136 => ?_) (fun c_136 => ?_)
              · have c136 := (hd_133.resolve_left (fun q => absurd (q.1.symm.trans c_136) (by decide))).2
                have htk : tkA b n a = 1 := (tk_sign c68 c91 c113).2.trans (if_neg c136)
                refine g_iconst (pc := 151) (v := (nI 1)) dX2_advance_151 (by decide) ?_
                refine a_puti (pc := 152) fw_X2_33 dX2_advance_152 (by first | rfl | assumption) rfl ?_
                refine g_aload_n (pc := 155) dX2_advance_155 rfl ?_
                refine g_dup (pc := 156) dX2_advance_156 rfl ?_
                refine v_geti (pc := 157) fl_X2_25 dX2_advance_157 (by first | rfl | assumption) rfl ((mset_nj (by omega)).trans ((mset_nj (by omega)).trans q3)) ?_
                refine g_iconst (pc := 160) (v := (nI 1)) dX2_advance_160 (by decide) ?_
                refine v_iadd (pc := 161) dX2_advance_161 (nI_succ a).symm ?_
                refine a_puti (pc := 162) fw_X2_25 dX2_advance_162 (by first | rfl | assumption) rfl ?_
                refine g_return (pc := 165) (x := ()) dX2_advance_165 rfl rfl ⟨_, rfl, ?_⟩
                first
                  | exact hfin
                  | exact ADV.of hE (tk_sign c68 c91 c113).1 htk (fun k hk => by rw [mset_ne hk, mset_ne hk, mset_ne hk]; exact f1 k hk) (fun j hj => by rw [mset_nj (by omega), mset_nj (by omega), mset_nj (by omega)]; exact f2 j (by omega)) mset_eq (by rw [mset_nj (by omega), mset_nj (by omega), mset_eq]) (by rw [mset_nj (by omega), mset_eq]) (by omega)
              · have c136 := (hd_133.resolve_right (fun q => c_136 q.1)).2
                have htk : tkA b n a = b a := (tk_sign c68 c91 c113).2.trans (if_pos c136)
                refine g_aload_n (pc := 139) dX2_advance_139 rfl ?_
                refine a_getr (pc := 140) (q := 34) fl_X2_9 dX2_advance_140 (by first | rfl | assumption) rfl rfl ?_
                refine g_aload_n (pc := 143) dX2_advance_143 rfl ?_
                refine v_geti (pc := 144) fl_X2_25 dX2_advance_144 (by first | rfl | assumption) rfl ((mset_nj (by omega)).trans q3) ?_
                refine v_iald (pc := 147) dX2_advance_147 (by first | rfl | assumption) rfl (by omega) (ht2.2.2 a c68).1 ?_
                refine g_goto (pc := 148) (tgt := 152) dX2_advance_148 (by decide) ?_
                refine a_puti (pc := 152) fw_X2_33 dX2_advance_152 (by first | rfl | assumption) rfl ?_
                refine g_aload_n (pc := 155) dX2_advance_155 rfl ?_
                refine g_dup (pc := 156) dX2_advance_156 rfl ?_
                refine v_geti (pc := 157) fl_X2_25 dX2_advance_157 (by first | rfl | assumption) rfl ((mset_nj (by omega)).trans ((mset_nj (by omega)).trans q3)) ?_
                refine g_iconst (pc := 160) (v := (nI 1)) dX2_advance_160 (by decide) ?_
                refine v_iadd (pc := 161) dX2_advance_161 (nI_succ a).symm ?_
                refine a_puti (pc := 162) fw_X2_25 dX2_advance_162 (by first | rfl | assumption) rfl ?_
                refine g_return (pc := 165) (x := ()) dX2_advance_165 rfl rfl ⟨_, rfl, ?_⟩
                first
                  | exact hfin
                  | exact ADV.of hE (tk_sign c68 c91 c113).1 htk (fun k hk => by rw [mset_ne hk, mset_ne hk, mset_ne hk]; exact f1 k hk) (fun j hj => by rw [mset_nj (by omega), mset_nj (by omega), mset_nj (by omega)]; exact f2 j (by omega)) mset_eq (by rw [mset_nj (by omega), mset_nj (by omega), mset_eq]) (by rw [mset_nj (by omega), mset_eq]) (by omega)
            · have c113 := (hd_110.resolve_right (fun q => c_113 q.1)).2
              refine g_aload_n (pc := 116) dX2_advance_116 rfl ?_
              refine a_cv0v (pc := 117) (c_X2_advanceOverNumber (mset ν 33 5 (nI a)) n b ht2 a c68 ((mset_nj (by omega)).trans q3) mset_eq) m_X2_advanceOverNumber ml_X2_77 (by omega) (by first | rfl | assumption) rfl rfl (Nat.le_of_ble_eq_true rfl) dX2_advance_117 (fun x_117 μ_117 h_117 => ?_)
              obtain ⟨g1, g2, g3, g4, g5⟩ := h_117
              obtain ⟨k1, k2, k3⟩ := tk_num c68 c91 c113
              have hfin : ADV μ μ_117 n b a0 := ADV.of hE k1 k2 (fun k hk => (g1 k hk).trans ((mset_ne hk).trans (f1 k hk))) (fun j hj => (g2 j (by omega) (by omega) (by omega)).trans ((mset_nj (by omega)).trans (f2 j (by omega)))) g3 ((g2 5 (by omega) (by omega) (by omega)).trans mset_eq) g4 (fun h => by
                rw [k3]
                exact g5)
              refine g_goto (pc := 120) (tgt := 165) dX2_advance_120 (by decide) ?_
              refine g_return (pc := 165) (x := ()) dX2_advance_165 rfl rfl ⟨_, rfl, ?_⟩
              first
                | exact hfin
                | exact ADV.of hE (tk_sign c68 c91 c113).1 htk (fun k hk => by rw [mset_ne hk, mset_ne hk, mset_ne hk]; exact f1 k hk) (fun j hj => by rw [mset_nj (by omega), mset_nj (by omega), mset_nj (by omega)]; exact f2 j (by omega)) mset_eq (by rw [mset_nj (by omega), mset_nj (by omega), mset_eq]) (by rw [mset_nj (by omega), mset_eq]) (by omega)
          · have c91 := (hd_88.resolve_right (fun q => c_91 q.1)).2
            refine g_aload_n (pc := 94) dX2_advance_94 rfl ?_
            refine a_cv0v (pc := 95) (c_X2_advanceOverWord (mset ν 33 5 (nI a)) n b ht2 a c68 ((mset_nj (by omega)).trans q3) mset_eq) m_X2_advanceOverWord ml_X2_71 (by omega) (by first | rfl | assumption) rfl rfl (Nat.le_of_ble_eq_true rfl) dX2_advance_95 (fun x_95 μ_95 h_95 => ?_)
            obtain ⟨g1, g2, g3, g4, g5⟩ := h_95
            obtain ⟨k1, k2, k3⟩ := tk_word c68 c91
            have hfin : ADV μ μ_95 n b a0 := ADV.of hE k1 k2 (fun k hk => (g1 k hk).trans ((mset_ne hk).trans (f1 k hk))) (fun j hj => (g2 j (by omega) (by omega) (by omega)).trans ((mset_nj (by omega)).trans (f2 j (by omega)))) g3 ((g2 5 (by omega) (by omega) (by omega)).trans mset_eq) g4 (fun h => by
              rw [k3]
              apply g5
              intro h6
              rw [if_pos h6] at h
              exact kyN_ne _ _ _ h)
            refine g_goto (pc := 98) (tgt := 165) dX2_advance_98 (by decide) ?_
            refine g_return (pc := 165) (x := ()) dX2_advance_165 rfl rfl ⟨_, rfl, ?_⟩
            first
              | exact hfin
              | exact ADV.of hE (tk_sign c68 c91 c113).1 htk (fun k hk => by rw [mset_ne hk, mset_ne hk, mset_ne hk]; exact f1 k hk) (fun j hj => by rw [mset_nj (by omega), mset_nj (by omega), mset_nj (by omega)]; exact f2 j (by omega)) mset_eq (by rw [mset_nj (by omega), mset_nj (by omega), mset_eq]) (by rw [mset_nj (by omega), mset_eq]) (by omega)
        · have c68 := nI_ge' (by omega) (by omega) c_68
          obtain ⟨k1, k2⟩ := tk_end (b := b) c68
          have hfin : ADV μ (mset (mset ν 33 5 (nI a)) 33 6 (nI 0)) n b a0 := ADV.of hE k1 k2 (fun k hk => by rw [mset_ne hk, mset_ne hk]; exact f1 k hk) (fun j hj => by rw [mset_nj (by omega), mset_nj (by omega)]; exact f2 j (by omega)) (by rw [mset_nj (by omega), mset_nj (by omega)]; exact q3) (by rw [mset_nj (by omega), mset_eq]) mset_eq (by omega)
          refine g_aload_n (pc := 71) dX2_advance_71 rfl ?_
          refine g_iconst (pc := 72) (v := (nI 0)) dX2_advance_72 (by decide) ?_
          refine a_puti (pc := 73) fw_X2_33 dX2_advance_73 (by first | rfl | assumption) rfl ?_
          refine g_goto (pc := 76) (tgt := 165) dX2_advance_76 (by decide) ?_
          refine g_return (pc := 165) (x := ()) dX2_advance_165 rfl rfl ⟨_, rfl, ?_⟩
          first
            | exact hfin
            | exact ADV.of hE (tk_sign c68 c91 c113).1 htk (fun k hk => by rw [mset_ne hk, mset_ne hk, mset_ne hk]; exact f1 k hk) (fun j hj => by rw [mset_nj (by omega), mset_nj (by omega), mset_nj (by omega)]; exact f2 j (by omega)) mset_eq (by rw [mset_nj (by omega), mset_nj (by omega), mset_eq]) (by rw [mset_nj (by omega), mset_eq]) (by omega)
      · have c8 := nI_gt' (by omega) (by omega) c_8
        have hba := (ht1.2.2 a c8).2
        refine g_aload_n (pc := 11) dX2_advance_11 rfl ?_
        refine a_getr (pc := 12) (q := 34) fl_X2_9 dX2_advance_12 (by first | rfl | assumption) rfl rfl ?_
        refine g_aload_n (pc := 15) dX2_advance_15 rfl ?_
        refine v_geti (pc := 16) fl_X2_25 dX2_advance_16 (by first | rfl | assumption) rfl q3 ?_
        refine v_iald (pc := 19) dX2_advance_19 (by first | rfl | assumption) rfl (by omega) (ht1.2.2 a c8).1 ?_
        refine g_bipush (pc := 20) (v := (nI 32)) dX2_advance_20 (by decide) ?_
        refine g_icmp_eq (pc := 22) (tgt := 39) dX2_advance_22 (by decide) (fun c_22 => ?_) (fun c_22 => ?_)
        · have c22 : b a = 32 := nI_eq' (by omega) (by omega) c_22
          have hb : b a = 32 ∨ b a = 10 := Or.inl c22
          have hw2 : skS b (n - (a + 1)) (a + 1) = lxP b n a0 := by
            rw [← hw, show n - a = (n - (a + 1)) + 1 by omega, skS, if_pos hb]
          refine g_aload_n (pc := 39) dX2_advance_39 rfl ?_
          refine g_dup (pc := 40) dX2_advance_40 rfl ?_
          refine v_geti (pc := 41) fl_X2_25 dX2_advance_41 (by first | rfl | assumption) rfl q3 ?_
          refine g_iconst (pc := 44) (v := (nI 1)) dX2_advance_44 (by decide) ?_
          refine v_iadd (pc := 45) dX2_advance_45 (nI_succ a).symm ?_
          refine a_puti (pc := 46) fw_X2_25 dX2_advance_46 (by first | rfl | assumption) rfl ?_
          refine g_goto (pc := 49) (tgt := 0) dX2_advance_49 (by decide) ?_
          exact ih (n - (a + 1)) (by omega) (a + 1) (by omega) (by omega) hw2 _ ⟨fun k hk => (mset_ne hk).trans (f1 k hk), fun j hj => (mset_nj hj).trans (f2 j hj), mset_eq⟩ rfl
        · have c22 : ¬ b a = 32 := fun h => c_22 (by rw [h])
          refine g_aload_n (pc := 25) dX2_advance_25 rfl ?_
          refine a_getr (pc := 26) (q := 34) fl_X2_9 dX2_advance_26 (by first | rfl | assumption) rfl rfl ?_
          refine g_aload_n (pc := 29) dX2_advance_29 rfl ?_
          refine v_geti (pc := 30) fl_X2_25 dX2_advance_30 (by first | rfl | assumption) rfl q3 ?_
          refine v_iald (pc := 33) dX2_advance_33 (by first | rfl | assumption) rfl (by omega) (ht1.2.2 a c8).1 ?_
          refine g_bipush (pc := 34) (v := (nI 10)) dX2_advance_34 (by decide) ?_
          refine g_icmp_ne (pc := 36) (tgt := 52) dX2_advance_36 (by decide) (fun c_36 => ?_) (fun c_36 => ?_)
          · have hE : lxP b n a0 = a := by
              rw [← hw, show n - a = (n - a - 1) + 1 by omega, skS, if_neg (fun h => h.elim c22 (fun h => c_36 (by rw [h])))]
            clear hw
            refine g_aload_n (pc := 52) dX2_advance_52 rfl ?_
            refine g_aload_n (pc := 53) dX2_advance_53 rfl ?_
            refine v_geti (pc := 54) fl_X2_25 dX2_advance_54 (by first | rfl | assumption) rfl q3 ?_
            refine a_puti (pc := 57) fw_X2_36 dX2_advance_57 (by first | rfl | assumption) rfl ?_
            refine g_aload_n (pc := 60) dX2_advance_60 rfl ?_
            refine v_geti (pc := 61) fl_X2_25 dX2_advance_61 (by first | rfl | assumption) rfl ((mset_nj (by omega)).trans q3) ?_
            refine g_aload_n (pc := 64) dX2_advance_64 rfl ?_
            refine v_geti (pc := 65) fl_X2_15 dX2_advance_65 (by first | rfl | assumption) rfl ht2.1 ?_
            refine g_icmp_lt (pc := 68) (tgt := 79) dX2_advance_68 (by decide) (fun c_68 => ?_) (fun c_68 => ?_)
            · have c68 := nI_lt' (by omega) (by omega) c_68
              refine g_aload_n (pc := 79) dX2_advance_79 rfl ?_
              refine a_getr (pc := 80) (q := 34) fl_X2_9 dX2_advance_80 (by first | rfl | assumption) rfl rfl ?_
              refine g_aload_n (pc := 83) dX2_advance_83 rfl ?_
              refine v_geti (pc := 84) fl_X2_25 dX2_advance_84 (by first | rfl | assumption) rfl ((mset_nj (by omega)).trans q3) ?_
              refine v_iald (pc := 87) dX2_advance_87 (by first | rfl | assumption) rfl (by omega) (ht2.2.2 a c68).1 ?_
              refine a_cs1i (pc := 88) (c_X2_isLetter (b a) (ht2.2.2 a c68).2 (mset ν 33 5 (nI a))) m_X2_isLetter ml_X2_68 (by omega) (Nat.le_of_ble_eq_true rfl) dX2_advance_88 (fun x_88 μ_88 h_88 => ?_)
              obtain ⟨hm_88, hd_88⟩ := h_88
              have hm_88 := hm_88.symm
              subst hm_88
              refine g_if_eq (pc := 91) (tgt := 101) dX2_advance_91 (by decide) (fun c_91 => ?_) (fun c_91 => ?_)
              · have c91 := (hd_88.resolve_left (fun q => absurd (q.1.symm.trans c_91) (by decide))).2
                refine g_aload_n (pc := 101) dX2_advance_101 rfl ?_
                refine a_getr (pc := 102) (q := 34) fl_X2_9 dX2_advance_102 (by first | rfl | assumption) rfl rfl ?_
                refine g_aload_n (pc := 105) dX2_advance_105 rfl ?_
                refine v_geti (pc := 106) fl_X2_25 dX2_advance_106 (by first | rfl | assumption) rfl ((mset_nj (by omega)).trans q3) ?_
                refine v_iald (pc := 109) dX2_advance_109 (by first | rfl | assumption) rfl (by omega) (ht2.2.2 a c68).1 ?_
                refine a_cs1i (pc := 110) (c_X2_isDigit (b a) (ht2.2.2 a c68).2 (mset ν 33 5 (nI a))) m_X2_isDigit ml_X2_74 (by omega) (Nat.le_of_ble_eq_true rfl) dX2_advance_110 (fun x_110 μ_110 h_110 => ?_)
                obtain ⟨hm_110, hd_110⟩ := h_110
                have hm_110 := hm_110.symm
                subst hm_110
                refine g_if_eq (pc := 113) (tgt := 123) dX2_advance_113 (by decide) (fun c_113 => ?_) (fun c_113 => ?_)
                · have c113 := (hd_110.resolve_left (fun q => absurd (q.1.symm.trans c_113) (by decide))).2
                  refine g_aload_n (pc := 123) dX2_advance_123 rfl ?_
                  refine g_aload_n (pc := 124) dX2_advance_124 rfl ?_
                  refine a_getr (pc := 125) (q := 34) fl_X2_9 dX2_advance_125 (by first | rfl | assumption) rfl rfl ?_
                  refine g_aload_n (pc := 128) dX2_advance_128 rfl ?_
                  refine v_geti (pc := 129) fl_X2_25 dX2_advance_129 (by first | rfl | assumption) rfl ((mset_nj (by omega)).trans q3) ?_
                  refine v_iald (pc := 132) dX2_advance_132 (by first | rfl | assumption) rfl (by omega) (ht2.2.2 a c68).1 ?_
                  refine a_cs1i (pc := 133) (c_X2_isSign (b a) (ht2.2.2 a c68).2 (mset ν 33 5 (nI a))) m_X2_isSign ml_X2_80 (by omega) (Nat.le_of_ble_eq_true rfl) dX2_advance_133 (fun x_133 μ_133 h_133 => ?_)
                  obtain ⟨hm_133, hd_133⟩ := h_133
                  have hm_133 := hm_133.symm
                  subst hm_133
                  refine g_if_eq (pc := 136) (tgt := 151) dX2_advance_136 (by decide) (fun c_136 => ?_) (fun c_136 => ?_)
                  · have c136 := (hd_133.resolve_left (fun q => absurd (q.1.symm.trans c_136) (by decide))).2
                    have htk : tkA b n a = 1 := (tk_sign c68 c91 c113).2.trans (if_neg c136)
                    refine g_iconst (pc := 151) (v := (nI 1)) dX2_advance_151 (by decide) ?_
                    refine a_puti (pc := 152) fw_X2_33 dX2_advance_152 (by first | rfl | assumption) rfl ?_
                    refine g_aload_n (pc := 155) dX2_advance_155 rfl ?_
                    refine g_dup (pc := 156) dX2_advance_156 rfl ?_
                    refine v_geti (pc := 157) fl_X2_25 dX2_advance_157 (by first | rfl | assumption) rfl ((mset_nj (by omega)).trans ((mset_nj (by omega)).trans q3)) ?_
                    refine g_iconst (pc := 160) (v := (nI 1)) dX2_advance_160 (by decide) ?_
                    refine v_iadd (pc := 161) dX2_advance_161 (nI_succ a).symm ?_
                    refine a_puti (pc := 162) fw_X2_25 dX2_advance_162 (by first | rfl | assumption) rfl ?_
                    refine g_return (pc := 165) (x := ()) dX2_advance_165 rfl rfl ⟨_, rfl, ?_⟩
                    first
                      | exact hfin
                      | exact ADV.of hE (tk_sign c68 c91 c113).1 htk (fun k hk => by rw [mset_ne hk, mset_ne hk, mset_ne hk]; exact f1 k hk) (fun j hj => by rw [mset_nj (by omega), mset_nj (by omega), mset_nj (by omega)]; exact f2 j (by omega)) mset_eq (by rw [mset_nj (by omega), mset_nj (by omega), mset_eq]) (by rw [mset_nj (by omega), mset_eq]) (by omega)
                  · have c136 := (hd_133.resolve_right (fun q => c_136 q.1)).2
                    have htk : tkA b n a = b a := (tk_sign c68 c91 c113).2.trans (if_pos c136)
                    refine g_aload_n (pc := 139) dX2_advance_139 rfl ?_
                    refine a_getr (pc := 140) (q := 34) fl_X2_9 dX2_advance_140 (by first | rfl | assumption) rfl rfl ?_
                    refine g_aload_n (pc := 143) dX2_advance_143 rfl ?_
                    refine v_geti (pc := 144) fl_X2_25 dX2_advance_144 (by first | rfl | assumption) rfl ((mset_nj (by omega)).trans q3) ?_
                    refine v_iald (pc := 147) dX2_advance_147 (by first | rfl | assumption) rfl (by omega) (ht2.2.2 a c68).1 ?_
                    refine g_goto (pc := 148) (tgt := 152) dX2_advance_148 (by decide) ?_
                    refine a_puti (pc := 152) fw_X2_33 dX2_advance_152 (by first | rfl | assumption) rfl ?_
                    refine g_aload_n (pc := 155) dX2_advance_155 rfl ?_
                    refine g_dup (pc := 156) dX2_advance_156 rfl ?_
                    refine v_geti (pc := 157) fl_X2_25 dX2_advance_157 (by first | rfl | assumption) rfl ((mset_nj (by omega)).trans ((mset_nj (by omega)).trans q3)) ?_
                    refine g_iconst (pc := 160) (v := (nI 1)) dX2_advance_160 (by decide) ?_
                    refine v_iadd (pc := 161) dX2_advance_161 (nI_succ a).symm ?_
                    refine a_puti (pc := 162) fw_X2_25 dX2_advance_162 (by first | rfl | assumption) rfl ?_
                    refine g_return (pc := 165) (x := ()) dX2_advance_165 rfl rfl ⟨_, rfl, ?_⟩
                    first
                      | exact hfin
                      | exact ADV.of hE (tk_sign c68 c91 c113).1 htk (fun k hk => by rw [mset_ne hk, mset_ne hk, mset_ne hk]; exact f1 k hk) (fun j hj => by rw [mset_nj (by omega), mset_nj (by omega), mset_nj (by omega)]; exact f2 j (by omega)) mset_eq (by rw [mset_nj (by omega), mset_nj (by omega), mset_eq]) (by rw [mset_nj (by omega), mset_eq]) (by omega)
                · have c113 := (hd_110.resolve_right (fun q => c_113 q.1)).2
                  refine g_aload_n (pc := 116) dX2_advance_116 rfl ?_
                  refine a_cv0v (pc := 117) (c_X2_advanceOverNumber (mset ν 33 5 (nI a)) n b ht2 a c68 ((mset_nj (by omega)).trans q3) mset_eq) m_X2_advanceOverNumber ml_X2_77 (by omega) (by first | rfl | assumption) rfl rfl (Nat.le_of_ble_eq_true rfl) dX2_advance_117 (fun x_117 μ_117 h_117 => ?_)
                  obtain ⟨g1, g2, g3, g4, g5⟩ := h_117
                  obtain ⟨k1, k2, k3⟩ := tk_num c68 c91 c113
                  have hfin : ADV μ μ_117 n b a0 := ADV.of hE k1 k2 (fun k hk => (g1 k hk).trans ((mset_ne hk).trans (f1 k hk))) (fun j hj => (g2 j (by omega) (by omega) (by omega)).trans ((mset_nj (by omega)).trans (f2 j (by omega)))) g3 ((g2 5 (by omega) (by omega) (by omega)).trans mset_eq) g4 (fun h => by
                    rw [k3]
                    exact g5)
                  refine g_goto (pc := 120) (tgt := 165) dX2_advance_120 (by decide) ?_
                  refine g_return (pc := 165) (x := ()) dX2_advance_165 rfl rfl ⟨_, rfl, ?_⟩
                  first
                    | exact hfin
                    | exact ADV.of hE (tk_sign c68 c91 c113).1 htk (fun k hk => by rw [mset_ne hk, mset_ne hk, mset_ne hk]; exact f1 k hk) (fun j hj => by rw [mset_nj (by omega), mset_nj (by omega), mset_nj (by omega)]; exact f2 j (by omega)) mset_eq (by rw [mset_nj (by omega), mset_nj (by omega), mset_eq]) (by rw [mset_nj (by omega), mset_eq]) (by omega)
              · have c91 := (hd_88.resolve_right (fun q => c_91 q.1)).2
                refine g_aload_n (pc := 94) dX2_advance_94 rfl ?_
                refine a_cv0v (pc := 95) (c_X2_advanceOverWord (mset ν 33 5 (nI a)) n b ht2 a c68 ((mset_nj (by omega)).trans q3) mset_eq) m_X2_advanceOverWord ml_X2_71 (by omega) (by first | rfl | assumption) rfl rfl (Nat.le_of_ble_eq_true rfl) dX2_advance_95 (fun x_95 μ_95 h_95 => ?_)
                obtain ⟨g1, g2, g3, g4, g5⟩ := h_95
                obtain ⟨k1, k2, k3⟩ := tk_word c68 c91
                have hfin : ADV μ μ_95 n b a0 := ADV.of hE k1 k2 (fun k hk => (g1 k hk).trans ((mset_ne hk).trans (f1 k hk))) (fun j hj => (g2 j (by omega) (by omega) (by omega)).trans ((mset_nj (by omega)).trans (f2 j (by omega)))) g3 ((g2 5 (by omega) (by omega) (by omega)).trans mset_eq) g4 (fun h => by
                  rw [k3]
                  apply g5
                  intro h6
                  rw [if_pos h6] at h
                  exact kyN_ne _ _ _ h)
                refine g_goto (pc := 98) (tgt := 165) dX2_advance_98 (by decide) ?_
                refine g_return (pc := 165) (x := ()) dX2_advance_165 rfl rfl ⟨_, rfl, ?_⟩
                first
                  | exact hfin
                  | exact ADV.of hE (tk_sign c68 c91 c113).1 htk (fun k hk => by rw [mset_ne hk, mset_ne hk, mset_ne hk]; exact f1 k hk) (fun j hj => by rw [mset_nj (by omega), mset_nj (by omega), mset_nj (by omega)]; exact f2 j (by omega)) mset_eq (by rw [mset_nj (by omega), mset_nj (by omega), mset_eq]) (by rw [mset_nj (by omega), mset_eq]) (by omega)
            · have c68 := nI_ge' (by omega) (by omega) c_68
              obtain ⟨k1, k2⟩ := tk_end (b := b) c68
              have hfin : ADV μ (mset (mset ν 33 5 (nI a)) 33 6 (nI 0)) n b a0 := ADV.of hE k1 k2 (fun k hk => by rw [mset_ne hk, mset_ne hk]; exact f1 k hk) (fun j hj => by rw [mset_nj (by omega), mset_nj (by omega)]; exact f2 j (by omega)) (by rw [mset_nj (by omega), mset_nj (by omega)]; exact q3) (by rw [mset_nj (by omega), mset_eq]) mset_eq (by omega)
              refine g_aload_n (pc := 71) dX2_advance_71 rfl ?_
              refine g_iconst (pc := 72) (v := (nI 0)) dX2_advance_72 (by decide) ?_
              refine a_puti (pc := 73) fw_X2_33 dX2_advance_73 (by first | rfl | assumption) rfl ?_
              refine g_goto (pc := 76) (tgt := 165) dX2_advance_76 (by decide) ?_
              refine g_return (pc := 165) (x := ()) dX2_advance_165 rfl rfl ⟨_, rfl, ?_⟩
              first
                | exact hfin
                | exact ADV.of hE (tk_sign c68 c91 c113).1 htk (fun k hk => by rw [mset_ne hk, mset_ne hk, mset_ne hk]; exact f1 k hk) (fun j hj => by rw [mset_nj (by omega), mset_nj (by omega), mset_nj (by omega)]; exact f2 j (by omega)) mset_eq (by rw [mset_nj (by omega), mset_nj (by omega), mset_eq]) (by rw [mset_nj (by omega), mset_eq]) (by omega)
          · have c36 : b a = 10 := nI_eq' (by omega) (by omega) c_36
            have hb : b a = 32 ∨ b a = 10 := Or.inr c36
            have hw2 : skS b (n - (a + 1)) (a + 1) = lxP b n a0 := by
              rw [← hw, show n - a = (n - (a + 1)) + 1 by omega, skS, if_pos hb]
            refine g_aload_n (pc := 39) dX2_advance_39 rfl ?_
            refine g_dup (pc := 40) dX2_advance_40 rfl ?_
            refine v_geti (pc := 41) fl_X2_25 dX2_advance_41 (by first | rfl | assumption) rfl q3 ?_
            refine g_iconst (pc := 44) (v := (nI 1)) dX2_advance_44 (by decide) ?_
            refine v_iadd (pc := 45) dX2_advance_45 (nI_succ a).symm ?_
            refine a_puti (pc := 46) fw_X2_25 dX2_advance_46 (by first | rfl | assumption) rfl ?_
            refine g_goto (pc := 49) (tgt := 0) dX2_advance_49 (by decide) ?_
            exact ih (n - (a + 1)) (by omega) (a + 1) (by omega) (by omega) hw2 _ ⟨fun k hk => (mset_ne hk).trans (f1 k hk), fun j hj => (mset_nj hj).trans (f2 j hj), mset_eq⟩ rfl
  exact lp0 _ a0 (Nat.le_refl _) hn rfl _ ⟨fun k _ => rfl, fun j _ => rfl, h4⟩ rfl
theorem c_X2_emit (μ : Mem) (t : Nat) (ht : t < 6) (len : Nat) (hl : len ≤ 160) (h2 : μ 33 2 = nI (18 + t)) (h3 : μ 33 3 = nI len) (c : Int32) : CA eV yX2_emit cX2_emit 2 none 0 [.ref 33, .int c] μ (fun _ μ1 => (len < 160 ∧ μ1 = mset (mset μ 33 3 (nI (len + 1))) (18 + t) len c) ∨ (len = 160 ∧ μ1 = μ)) := by
  refine CT.of false (by decide) (by decide) (L := [some (.ref 33), some (.int c)]) rfl (Nat.le_of_ble_eq_true rfl) ?_
  refine g_aload_n (pc := 0) dX2_emit_0 rfl ?_
  refine a_getd (pc := 1) fl_X2_19 dX2_emit_1 (by first | rfl | assumption) rfl h2 (by omega) ?_
  refine g_ifnull (pc := 4) dX2_emit_4 ?_
  refine g_aload_n (pc := 7) dX2_emit_7 rfl ?_
  refine v_geti (pc := 8) fl_X2_22 dX2_emit_8 (by first | rfl | assumption) rfl h3 ?_
  refine g_aload_n (pc := 11) dX2_emit_11 rfl ?_
  refine a_getd (pc := 12) fl_X2_19 dX2_emit_12 (by first | rfl | assumption) rfl h2 (by omega) ?_
  refine a_alen (pc := 15) dX2_emit_15 (shCode t ht).1 rfl ?_
  refine g_icmp_ge (pc := 16) (tgt := 36) dX2_emit_16 (by decide) (fun c_16 => ?_) (fun c_16 => ?_)
  · have c16 := nI_le' (by omega) (by omega) c_16
    refine g_return (pc := 36) (x := ()) dX2_emit_36 rfl rfl ⟨_, rfl, ?_⟩
    first | exact Or.inl ⟨c16, rfl⟩ | exact Or.inr ⟨by omega, rfl⟩
  · have c16 := nI_gt' (by omega) (by omega) c_16
    refine g_aload_n (pc := 19) dX2_emit_19 rfl ?_
    refine a_getd (pc := 20) fl_X2_19 dX2_emit_20 (by first | rfl | assumption) rfl h2 (by omega) ?_
    refine g_aload_n (pc := 23) dX2_emit_23 rfl ?_
    refine g_dup (pc := 24) dX2_emit_24 rfl ?_
    refine v_geti (pc := 25) fl_X2_22 dX2_emit_25 (by first | rfl | assumption) rfl h3 ?_
    refine g_dup_x1 (pc := 28) dX2_emit_28 rfl rfl ?_
    refine g_iconst (pc := 29) (v := (nI 1)) dX2_emit_29 (by decide) ?_
    refine v_iadd (pc := 30) dX2_emit_30 (nI_succ len).symm ?_
    refine a_puti (pc := 31) fw_X2_22 dX2_emit_31 (by first | rfl | assumption) rfl ?_
    refine g_iload_n (pc := 34) dX2_emit_34 rfl ?_
    refine a_iast (pc := 35) dX2_emit_35 (shCode t ht).1 rfl (by omega) ?_
    refine g_return (pc := 36) (x := ()) dX2_emit_36 rfl rfl ⟨_, rfl, ?_⟩
    first | exact Or.inl ⟨c16, rfl⟩ | exact Or.inr ⟨by omega, rfl⟩
