/-! ===== the model: image, back, text ===== -/
/-- what the model keeps: the image, without its kinds -/
def KWm (μ : Mem) (vk : View) (im : Bool) : Prop := (im = false → μ 57 38 = -1) ∧ (im = true → μ 57 38 = nI (vk 0 3) ∧ μ 57 39 = nI (vk 0 0) ∧ μ 57 40 = nI (vk 0 1) ∧ μ 57 41 = nI (vk 0 2) ∧ ∀ p, p < vk 0 3 → μ 67 (3 * p) = nI (vk 2 p) ∧ μ 67 (3 * p + 1) = nI (vk 3 p) ∧ μ 67 (3 * p + 2) = nI (vk 4 p))
theorem KWm.moved {μ μ1 : Mem} {vk : View} {im : Bool} (h : KWm μ vk im) (h1 : ∀ j, 37 < j → μ1 57 j = μ 57 j) (h2 : μ1 67 = μ 67) : KWm μ1 vk im := ⟨fun q => (h1 38 (by omega)).trans (h.1 q), fun q => by
  obtain ⟨a, b, c, d, e⟩ := h.2 q
  exact ⟨(h1 38 (by omega)).trans a, (h1 39 (by omega)).trans b, (h1 40 (by omega)).trans c, (h1 41 (by omega)).trans d, fun p hp => by rw [h2]; exact e p hp⟩⟩
theorem c_X8_image (v : View) (tc : Nat) (sz : Nat → Nat) (tb : Nat → Nat → Nat) (μ : Mem) (hW : MW μ v tc sz tb) : CA eI yX8_image cX8_image 2 (some .int) 0 [.ref 57] μ (fun r μ1 => r = nI (v 0 3) ∧ KWm μ1 v true ∧ (∀ c, c ≠ 57 → c ≠ 67 → μ1 c = μ c) ∧ ∀ j, j < 38 → μ1 57 j = μ 57 j) := by
  obtain ⟨hV, hTx, hru⟩ := id hW
  obtain ⟨⟨v1, v1b⟩, ⟨v2, v2b⟩, ⟨v3, v3b⟩, ⟨v4, v4b⟩, v5⟩ := id hV
  refine CT.of false (by decide) (by decide) (L := [some (.ref 57), none]) rfl (Nat.le_of_ble_eq_true rfl) ?_
  refine g_iconst (pc := 0) (v := (nI 0)) dX8_image_0 (by decide) ?_
  refine a_ist1 (pc := 1) dX8_image_1 (by decide) rfl ?_
  have lp2 : ∀ (zz : Nat) (i : Nat) (hi : i ≤ 21) (ν : Mem) (hν : (∀ k, k < i → ν 67 k = μ 62 k) ∧ ∀ c, c ≠ 67 → ν c = μ c), 21 - i = zz → WG eI yX8_image.cls cX8_image 2 (some .int) false (fun _ _ => True) 0 (mpost (fun r μ1 => r = nI (v 0 3) ∧ KWm μ1 v true ∧ (∀ c, c ≠ 57 → c ≠ 67 → μ1 c = μ c) ∧ ∀ j, j < 38 → μ1 57 j = μ 57 j)) 0 0 2 [some (.ref 57), some (.int (nI i))] [] (mk ν) := by
    intro zz
    induction zz using Nat.strongRecOn with
    | ind zz ih =>
      intro i hi ν hν hzz
      obtain ⟨a1, a2⟩ := hν
      refine g_iload_n (pc := 2) dX8_image_2 rfl ?_
      refine g_bipush (pc := 3) (v := (nI 21)) dX8_image_3 (by decide) ?_
      refine g_icmp_ge (pc := 5) (tgt := 26) dX8_image_5 (by decide) (fun c_5 => ?_) (fun c_5 => ?_)
      · have c5 := nI_le' (by omega) (by omega) c_5
        obtain rfl : i = 21 := by omega
        refine g_aload_n (pc := 26) dX8_image_26 rfl ?_
        refine g_aload_n (pc := 27) dX8_image_27 rfl ?_
        refine v_geti (pc := 28) fl_X8_73 dX8_image_28 (by first | rfl | assumption) rfl ((congrFun (a2 57 (by omega)) 11).trans v4) ?_
        refine a_puti (pc := 31) fw_X8_50 dX8_image_31 (by first | rfl | assumption) rfl ?_
        refine g_aload_n (pc := 34) dX8_image_34 rfl ?_
        refine g_aload_n (pc := 35) dX8_image_35 rfl ?_
        refine v_geti (pc := 36) fl_X8_23 dX8_image_36 (by first | rfl | assumption) rfl ((mset_nj (by omega)).trans ((congrFun (a2 57 (by omega)) 7).trans v1)) ?_
        refine a_puti (pc := 39) fw_X8_325 dX8_image_39 (by first | rfl | assumption) rfl ?_
        refine g_aload_n (pc := 42) dX8_image_42 rfl ?_
        refine g_aload_n (pc := 43) dX8_image_43 rfl ?_
        refine v_geti (pc := 44) fl_X8_26 dX8_image_44 (by first | rfl | assumption) rfl ((mset_nj (by omega)).trans ((mset_nj (by omega)).trans ((congrFun (a2 57 (by omega)) 8).trans v2))) ?_
        refine a_puti (pc := 47) fw_X8_328 dX8_image_47 (by first | rfl | assumption) rfl ?_
        refine g_aload_n (pc := 50) dX8_image_50 rfl ?_
        refine g_aload_n (pc := 51) dX8_image_51 rfl ?_
        refine v_geti (pc := 52) fl_X8_98 dX8_image_52 (by first | rfl | assumption) rfl ((mset_nj (by omega)).trans ((mset_nj (by omega)).trans ((mset_nj (by omega)).trans ((congrFun (a2 57 (by omega)) 4).trans v3)))) ?_
        refine a_puti (pc := 55) fw_X8_331 dX8_image_55 (by first | rfl | assumption) rfl ?_
        refine g_aload_n (pc := 58) dX8_image_58 rfl ?_
        refine v_geti (pc := 59) fl_X8_73 dX8_image_59 (by first | rfl | assumption) rfl ((mset_nj (by omega)).trans ((mset_nj (by omega)).trans ((mset_nj (by omega)).trans ((mset_nj (by omega)).trans ((congrFun (a2 57 (by omega)) 11).trans v4))))) ?_
        refine g_ireturn (pc := 62) dX8_image_62 rfl (by first | rfl | decide) rfl ⟨_, rfl, ?_⟩
        refine ⟨rfl, ⟨fun q => absurd q (by simp), fun _ => ⟨?_, ?_, ?_, mset_eq, fun p hp => ?_⟩⟩, fun c h1 h2 => by rw [mset_ne h1, mset_ne h1, mset_ne h1, mset_ne h1]; exact a2 c h2, fun j hj => by rw [mset_nj (by omega), mset_nj (by omega), mset_nj (by omega), mset_nj (by omega)]; exact congrFun (a2 57 (by omega)) j⟩
        · rw [mset_nj (by omega), mset_nj (by omega), mset_nj (by omega), mset_eq]
        · rw [mset_nj (by omega), mset_nj (by omega), mset_eq]
        · rw [mset_nj (by omega), mset_eq]
        · rw [mset_ne (by omega), mset_ne (by omega), mset_ne (by omega), mset_ne (by omega), a1 (3 * p) (by omega), a1 (3 * p + 1) (by omega), a1 (3 * p + 2) (by omega)]
          exact ⟨(v5 p hp).2.1.1, (v5 p hp).2.2.1.1, (v5 p hp).2.2.2.1⟩
      · have c5 := nI_gt' (by omega) (by omega) c_5
        refine g_aload_n (pc := 8) dX8_image_8 rfl ?_
        refine a_getr (pc := 9) (q := 67) fl_X8_47 dX8_image_9 (by first | rfl | assumption) rfl rfl ?_
        refine g_iload_n (pc := 12) dX8_image_12 rfl ?_
        refine g_aload_n (pc := 13) dX8_image_13 rfl ?_
        refine a_getr (pc := 14) (q := 62) fl_X8_32 dX8_image_14 (by first | rfl | assumption) rfl rfl ?_
        refine g_iload_n (pc := 17) dX8_image_17 rfl ?_
        refine v_iald (pc := 18) dX8_image_18 (by first | rfl | assumption) rfl c5 (congrFun (a2 62 (by omega)) i) ?_
        refine a_iast (pc := 19) dX8_image_19 (by first | rfl | assumption) rfl c5 ?_
        refine a_iinc1 (pc := 20) dX8_image_20 (inc1 i) (by decide) rfl ?_
        refine g_goto (pc := 23) (tgt := 2) dX8_image_23 (by decide) ?_
        refine ih (21 - (i + 1)) (by omega) (i + 1) (by omega) _ ⟨fun k hk => ?_, fun c hc => (mset_ne hc).trans (a2 c hc)⟩ rfl
        rcases Nat.lt_or_ge k i with hki | hki
        · rw [mset_nj (by omega)]
          exact a1 k hki
        · obtain rfl : k = i := by omega
          exact mset_eq
  exact lp2 _ 0 (Nat.zero_le _) _ ⟨fun q hq => absurd hq (Nat.not_lt_zero q), fun _ _ => rfl⟩ rfl
theorem c_X8_back (vk : View) (im : Bool) (μ : Mem) (hk : KWm μ vk im) (hkv : VB vk) (hkb0 : vk 0 0 ≤ 9) (hkb1 : vk 0 1 ≤ 99) (hkb2 : vk 0 2 ≤ 5) (hkk : ∀ p, p < vk 0 3 → μ 61 p = nI (vk 1 p)) : CA eI yX8_back cX8_back 2 (some .int) 0 [.ref 57] μ (fun r μ1 => (im = false ∧ r = -3 ∧ μ1 = μ) ∨ (im = true ∧ r = nI (vk 0 3) ∧ MVw μ1 vk ∧ (∀ c, c ≠ 57 → c ≠ 62 → μ1 c = μ c) ∧ ∀ j, j ≠ 11 → j ≠ 4 → j ≠ 7 → j ≠ 8 → μ1 57 j = μ 57 j)) := by
  have hkn := hkv.1
  refine CT.of false (by decide) (by decide) (L := [some (.ref 57), none]) rfl (Nat.le_of_ble_eq_true rfl) ?_
  refine g_aload_n (pc := 0) dX8_back_0 rfl ?_
  refine v_geti (pc := 1) fl_X8_50 dX8_back_1 (by first | rfl | assumption) rfl rfl ?_
  refine g_iconst (pc := 4) (v := (-1)) dX8_back_4 (by decide) ?_
  refine g_icmp_ne (pc := 5) (tgt := 11) dX8_back_5 (by decide) (fun c_5 => ?_) (fun c_5 => ?_)
  · have him : im = true := by
      rcases Bool.eq_false_or_eq_true im with h | h
      · exact h
      · exact absurd (hk.1 h) c_5
    obtain ⟨k0, k1, k2, k3, k4⟩ := hk.2 him
    refine g_iconst (pc := 11) (v := (nI 0)) dX8_back_11 (by decide) ?_
    refine a_ist1 (pc := 12) dX8_back_12 (by decide) rfl ?_
    have lp13 : ∀ (zz : Nat) (i : Nat) (hi : i ≤ 21) (ν : Mem) (hν : (∀ k, k < i → ν 62 k = μ 67 k) ∧ ∀ c, c ≠ 62 → ν c = μ c), 21 - i = zz → WG eI yX8_back.cls cX8_back 2 (some .int) false (fun _ _ => True) 0 (mpost (fun r μ1 => (im = false ∧ r = -3 ∧ μ1 = μ) ∨ (im = true ∧ r = nI (vk 0 3) ∧ MVw μ1 vk ∧ (∀ c, c ≠ 57 → c ≠ 62 → μ1 c = μ c) ∧ ∀ j, j ≠ 11 → j ≠ 4 → j ≠ 7 → j ≠ 8 → μ1 57 j = μ 57 j))) 0 0 13 [some (.ref 57), some (.int (nI i))] [] (mk ν) := by
      intro zz
      induction zz using Nat.strongRecOn with
      | ind zz ih =>
        intro i hi ν hν hzz
        obtain ⟨a1, a2⟩ := hν
        have e57 := fun j => congrFun (a2 57 (by omega)) j
        refine g_iload_n (pc := 13) dX8_back_13 rfl ?_
        refine g_bipush (pc := 14) (v := (nI 21)) dX8_back_14 (by decide) ?_
        refine g_icmp_ge (pc := 16) (tgt := 37) dX8_back_16 (by decide) (fun c_16 => ?_) (fun c_16 => ?_)
        · have c16 := nI_le' (by omega) (by omega) c_16
          obtain rfl : i = 21 := by omega
          refine g_aload_n (pc := 37) dX8_back_37 rfl ?_
          refine g_aload_n (pc := 38) dX8_back_38 rfl ?_
          refine v_geti (pc := 39) fl_X8_50 dX8_back_39 (by first | rfl | assumption) rfl ((e57 38).trans k0) ?_
          refine a_puti (pc := 42) fw_X8_73 dX8_back_42 (by first | rfl | assumption) rfl ?_
          refine g_aload_n (pc := 45) dX8_back_45 rfl ?_
          refine g_aload_n (pc := 46) dX8_back_46 rfl ?_
          refine v_geti (pc := 47) fl_X8_325 dX8_back_47 (by first | rfl | assumption) rfl ((mset_nj (by omega)).trans ((e57 39).trans k1)) ?_
          refine a_puti (pc := 50) fw_X8_23 dX8_back_50 (by first | rfl | assumption) rfl ?_
          refine g_aload_n (pc := 53) dX8_back_53 rfl ?_
          refine g_aload_n (pc := 54) dX8_back_54 rfl ?_
          refine v_geti (pc := 55) fl_X8_328 dX8_back_55 (by first | rfl | assumption) rfl ((mset_nj (by omega)).trans ((mset_nj (by omega)).trans ((e57 40).trans k2))) ?_
          refine a_puti (pc := 58) fw_X8_26 dX8_back_58 (by first | rfl | assumption) rfl ?_
          refine g_aload_n (pc := 61) dX8_back_61 rfl ?_
          refine g_aload_n (pc := 62) dX8_back_62 rfl ?_
          refine v_geti (pc := 63) fl_X8_331 dX8_back_63 (by first | rfl | assumption) rfl ((mset_nj (by omega)).trans ((mset_nj (by omega)).trans ((mset_nj (by omega)).trans ((e57 41).trans k3)))) ?_
          refine a_puti (pc := 66) fw_X8_98 dX8_back_66 (by first | rfl | assumption) rfl ?_
          refine g_aload_n (pc := 69) dX8_back_69 rfl ?_
          refine v_geti (pc := 70) fl_X8_73 dX8_back_70 (by first | rfl | assumption) rfl ((mset_nj (by omega)).trans ((mset_nj (by omega)).trans ((mset_nj (by omega)).trans mset_eq))) ?_
          refine g_ireturn (pc := 73) dX8_back_73 rfl (by first | rfl | decide) rfl ⟨_, rfl, ?_⟩
          refine Or.inr ⟨him, rfl, ⟨⟨?_, hkb0⟩, ⟨?_, hkb1⟩, ⟨mset_eq, hkb2⟩, ⟨?_, hkv.1⟩, fun p hp => ?_⟩, fun c h1 h2 => by rw [mset_ne h1, mset_ne h1, mset_ne h1, mset_ne h1]; exact a2 c h2, fun j h1 h2 h3 h4 => by rw [mset_nj h2, mset_nj h4, mset_nj h3, mset_nj h1]; exact e57 j⟩
          · rw [mset_nj (by omega), mset_nj (by omega), mset_eq]
          · rw [mset_nj (by omega), mset_eq]
          · rw [mset_nj (by omega), mset_nj (by omega), mset_nj (by omega), mset_eq]
          · obtain ⟨b1, b2, b3, b4⟩ := hkv.2 p hp
            obtain ⟨m1, m2, m3⟩ := k4 p hp
            have hn7 := hkv.1
            rw [mset_ne (by omega), mset_ne (by omega), mset_ne (by omega), mset_ne (by omega), mset_ne (by omega), mset_ne (by omega), mset_ne (by omega), mset_ne (by omega), a1 (3 * p) (by omega), a1 (3 * p + 1) (by omega), a1 (3 * p + 2) (by omega), a2 61 (by omega)]
            exact ⟨⟨hkk p hp, b1⟩, ⟨m1, b2⟩, ⟨m2, b3⟩, m3, b4⟩
        · have c16 := nI_gt' (by omega) (by omega) c_16
          refine g_aload_n (pc := 19) dX8_back_19 rfl ?_
          refine a_getr (pc := 20) (q := 62) fl_X8_32 dX8_back_20 (by first | rfl | assumption) rfl rfl ?_
          refine g_iload_n (pc := 23) dX8_back_23 rfl ?_
          refine g_aload_n (pc := 24) dX8_back_24 rfl ?_
          refine a_getr (pc := 25) (q := 67) fl_X8_47 dX8_back_25 (by first | rfl | assumption) rfl rfl ?_
          refine g_iload_n (pc := 28) dX8_back_28 rfl ?_
          refine v_iald (pc := 29) dX8_back_29 (by first | rfl | assumption) rfl c16 (congrFun (a2 67 (by omega)) i) ?_
          refine a_iast (pc := 30) dX8_back_30 (by first | rfl | assumption) rfl c16 ?_
          refine a_iinc1 (pc := 31) dX8_back_31 (inc1 i) (by decide) rfl ?_
          refine g_goto (pc := 34) (tgt := 13) dX8_back_34 (by decide) ?_
          refine ih (21 - (i + 1)) (by omega) (i + 1) (by omega) _ ⟨fun k hk => ?_, fun c hc => (mset_ne hc).trans (a2 c hc)⟩ rfl
          rcases Nat.lt_or_ge k i with hki | hki
          · rw [mset_nj (by omega)]
            exact a1 k hki
          · obtain rfl : k = i := by omega
            exact mset_eq
    exact lp13 _ 0 (Nat.zero_le _) _ ⟨fun q hq => absurd hq (Nat.not_lt_zero q), fun _ _ => rfl⟩ rfl
  · have him : im = false := by
      rcases Bool.eq_false_or_eq_true im with h | h
      · rw [(hk.2 h).1] at c_5
        exact absurd c_5 (nI_m1 (by omega))
      · exact h
    refine g_bipush (pc := 8) (v := (-3)) dX8_back_8 (by decide) ?_
    refine g_ireturn (pc := 10) dX8_back_10 rfl (by first | rfl | decide) rfl ⟨_, rfl, ?_⟩
    exact Or.inl ⟨him, rfl, rfl⟩
theorem TXA.more {μ μ1 : Mem} {tc : Nat} {sz : Nat → Nat} {tb : Nat → Nat → Nat} {n : Nat} {b : Nat → Nat} (h : TXA μ tc sz tb) (htc : tc < 6) (h3 : μ1 57 3 = nI (tc + 1)) (h58 : ∀ k, k < 160 * tc → μ1 58 k = μ 58 k) (h59 : ∀ k, k ≠ tc → μ1 59 k = μ 59 k) (hn : n ≤ 160) (g59 : μ1 59 tc = nI n) (g58 : ∀ j, j < n → μ1 58 (160 * tc + j) = nI (b j) ∧ b j ≤ 255) (hok : rdOK n b) : TXA μ1 (tc + 1) (updN sz tc n) (updN tb tc b) := by
  obtain ⟨⟨a1, a2, a3⟩, a4⟩ := h
  refine ⟨⟨h3, by omega, by omega⟩, fun t ht => ?_⟩
  by_cases htt : t = tc
  · subst htt
    rw [updN_eq, updN_eq]
    exact ⟨g59, hn, g58, hok⟩
  · rw [updN_ne _ _ htt, updN_ne _ _ htt]
    obtain ⟨b1, b2, b3, b4⟩ := a4 t (by omega)
    exact ⟨(h59 t htt).trans b1, b2, fun j hj => ⟨(h58 _ (by omega)).trans (b3 j hj).1, (b3 j hj).2⟩, b4⟩
theorem TXA.less {μ μ1 : Mem} {tc : Nat} {sz : Nat → Nat} {tb : Nat → Nat → Nat} (h : TXA μ tc sz tb) (h3 : μ1 57 3 = μ 57 3) (h58 : ∀ k, k < 160 * tc → μ1 58 k = μ 58 k) (h59 : ∀ k, k ≠ tc → μ1 59 k = μ 59 k) : TXA μ1 tc sz tb := by
  obtain ⟨a1, a4⟩ := h
  refine ⟨⟨h3.trans a1.1, a1.2⟩, fun t ht => ?_⟩
  obtain ⟨b1, b2, b3, b4⟩ := a4 t ht
  exact ⟨(h59 t (by omega)).trans b1, b2, fun j hj => ⟨(h58 _ (by omega)).trans (b3 j hj).1, (b3 j hj).2⟩, b4⟩
theorem c_X8_text (tc : Nat) (sz : Nat → Nat) (tb : Nat → Nat → Nat) (tn : Nat) (tp : Nat → Nat) (μ : Mem) (hTx : TXA μ tc sz tb) (ht : TPm μ tn tp) : CA eI yX8_text cX8_text 2 (some .int) 42 [.ref 57] μ (fun r μ1 => (tc = 6 ∧ r = -4 ∧ μ1 = μ) ∨ (tc < 6 ∧ (∀ c, c ≠ 57 → c ≠ 58 → c ≠ 59 → μ1 c = μ c) ∧ μ1 57 6 = nI 0 ∧ ((rdOK tn tp ∧ r = nI tc ∧ TXA μ1 (tc + 1) (updN sz tc tn) (updN tb tc tp) ∧ ∀ j, j ≠ 6 → j ≠ 3 → (j < 18 ∨ 26 < j) → μ1 57 j = μ 57 j) ∨ (¬ rdOK tn tp ∧ r = -100 - nI (rdP tn tp) ∧ TXA μ1 tc sz tb ∧ ∀ j, j ≠ 6 → j ≠ 3 → (j < 18 ∨ 26 < j) → μ1 57 j = μ 57 j)))) := by
  have htc := hTx.1.2.2
  have h160 := ht.2.1
  refine CT.of false (by decide) (by decide) (L := [some (.ref 57), none]) rfl (Nat.le_of_ble_eq_true rfl) ?_
  refine g_aload_n (pc := 0) dX8_text_0 rfl ?_
  refine v_geti (pc := 1) fl_X8_70 dX8_text_1 (by first | rfl | assumption) rfl hTx.1.1 ?_
  refine g_bipush (pc := 4) (v := (nI 6)) dX8_text_4 (by decide) ?_
  refine g_icmp_ne (pc := 6) (tgt := 12) dX8_text_6 (by decide) (fun c_6 => ?_) (fun c_6 => ?_)
  · have c6 : tc < 6 := by
      have : ¬ tc = 6 := fun h => c_6 (by rw [h])
      omega
    refine g_iconst (pc := 12) (v := (nI 0)) dX8_text_12 (by decide) ?_
    refine a_ist1 (pc := 13) dX8_text_13 (by decide) rfl ?_
    have lp14 : ∀ (zz : Nat) (i : Nat) (hi : i ≤ tn) (ν : Mem) (hν : (∀ k, k < i → ν 58 (160 * tc + k) = nI (tp k)) ∧ (∀ k, k < 160 * tc → ν 58 k = μ 58 k) ∧ ∀ c, c ≠ 58 → ν c = μ c), tn - i = zz → WG eI yX8_text.cls cX8_text 2 (some .int) false (fun _ _ => True) 42 (mpost (fun r μ1 => (tc = 6 ∧ r = -4 ∧ μ1 = μ) ∨ (tc < 6 ∧ (∀ c, c ≠ 57 → c ≠ 58 → c ≠ 59 → μ1 c = μ c) ∧ μ1 57 6 = nI 0 ∧ ((rdOK tn tp ∧ r = nI tc ∧ TXA μ1 (tc + 1) (updN sz tc tn) (updN tb tc tp) ∧ ∀ j, j ≠ 6 → j ≠ 3 → (j < 18 ∨ 26 < j) → μ1 57 j = μ 57 j) ∨ (¬ rdOK tn tp ∧ r = -100 - nI (rdP tn tp) ∧ TXA μ1 tc sz tb ∧ ∀ j, j ≠ 6 → j ≠ 3 → (j < 18 ∨ 26 < j) → μ1 57 j = μ 57 j))))) 0 0 14 [some (.ref 57), some (.int (nI i))] [] (mk ν) := by
      intro zz
      induction zz using Nat.strongRecOn with
      | ind zz ih =>
        intro i hi ν hν hzz
        obtain ⟨a1, a3, a2⟩ := hν
        have e57 := fun j => congrFun (a2 57 (by omega)) j
        refine g_iload_n (pc := 14) dX8_text_14 rfl ?_
        refine g_aload_n (pc := 15) dX8_text_15 rfl ?_
        refine v_geti (pc := 16) fl_X8_122 dX8_text_16 (by first | rfl | assumption) rfl ((e57 6).trans ht.1) ?_
        refine g_icmp_ge (pc := 19) (tgt := 49) dX8_text_19 (by decide) (fun c_19 => ?_) (fun c_19 => ?_)
        · have c19 := nI_le' (by omega) (by omega) c_19
          obtain rfl : i = tn := by omega
          refine g_aload_n (pc := 49) dX8_text_49 rfl ?_
          refine a_getr (pc := 50) (q := 59) fl_X8_17 dX8_text_50 (by first | rfl | assumption) rfl rfl ?_
          refine g_aload_n (pc := 53) dX8_text_53 rfl ?_
          refine v_geti (pc := 54) fl_X8_70 dX8_text_54 (by first | rfl | assumption) rfl ((e57 3).trans hTx.1.1) ?_
          refine g_aload_n (pc := 57) dX8_text_57 rfl ?_
          refine v_geti (pc := 58) fl_X8_122 dX8_text_58 (by first | rfl | assumption) rfl ((e57 6).trans ht.1) ?_
          refine a_iast (pc := 61) dX8_text_61 (by first | rfl | assumption) rfl (by omega) ?_
          refine g_aload_n (pc := 62) dX8_text_62 rfl ?_
          refine g_iconst (pc := 63) (v := (nI 0)) dX8_text_63 (by decide) ?_
          refine a_puti (pc := 64) fw_X8_122 dX8_text_64 (by first | rfl | assumption) rfl ?_
          refine g_aload_n (pc := 67) dX8_text_67 rfl ?_
          refine g_aload_n (pc := 68) dX8_text_68 rfl ?_
          refine v_geti (pc := 69) fl_X8_70 dX8_text_69 (by first | rfl | assumption) rfl ((mset_nj (by omega)).trans ((congrFun (mset_ne (by omega)) 3).trans ((e57 3).trans hTx.1.1))) ?_
          refine g_iconst (pc := 72) (v := (nI 0)) dX8_text_72 (by decide) ?_
          refine a_cv2i (pc := 73) (c_X8_read tc i c6 tp (fun j => (mset (mset ν 59 tc (nI i)) 57 6 (nI 0)) 57 (12 + j)) 0 (by decide) (mset (mset ν 59 tc (nI i)) 57 6 (nI 0)) ((congrFun (mset_ne (by omega)) tc).trans mset_eq) ht.2.1 (fun j hj => ⟨by rw [mset_ne (by omega), mset_ne (by omega)]; exact a1 j hj, (ht.2.2 j hj).2⟩) (fun j _ => rfl)) m_X8_read ml_X8_236 (by omega) (by first | rfl | assumption) rfl rfl (Nat.le_of_ble_eq_true rfl) dX8_text_73 (fun x_73 μ_73 h_73 => ?_)
          obtain ⟨r1, r2, r3⟩ := h_73
          have hp := rdP_lt (b := tp) ht.2.1
          have g58 : μ_73 58 = ν 58 := by rw [r1 58 (by omega), mset_ne (by omega), mset_ne (by omega)]
          have g59 : μ_73 59 tc = nI i := by rw [r1 59 (by omega), mset_ne (by omega), mset_eq]
          have g59n : ∀ k, k ≠ tc → μ_73 59 k = μ 59 k := fun k hk => by rw [r1 59 (by omega), mset_ne (by omega), mset_nj hk, a2 59 (by omega)]
          have g57 : ∀ j, j ≠ 6 → (j < 18 ∨ 26 < j) → μ_73 57 j = μ 57 j := fun j h1 h2 => by rw [r2 j h2, mset_nj h1, mset_ne (by omega)]; exact e57 j
          have g6 : μ_73 57 6 = nI 0 := by rw [r2 6 (by omega), mset_eq]
          have gk : ∀ c, c ≠ 57 → c ≠ 58 → c ≠ 59 → μ_73 c = μ c := fun c h1 h2 h3 => by rw [r1 c h1, mset_ne h1, mset_ne h3]; exact a2 c h2
          refine a_ist1 (pc := 76) dX8_text_76 (by decide) rfl ?_
          refine g_aload_n (pc := 77) dX8_text_77 rfl ?_
          refine v_getz (pc := 78) fl_X8_157 dX8_text_78 (by first | rfl | assumption) rfl rfl ?_
          refine g_if_eq (pc := 81) (tgt := 92) dX8_text_81 (by decide) (fun c_81 => ?_) (fun c_81 => ?_)
          · obtain ⟨k1, k2, -⟩ := r3.resolve_right (fun q => by rw [q.2.1] at c_81; exact absurd c_81 (by decide))
            refine g_aload_n (pc := 92) dX8_text_92 rfl ?_
            refine g_dup (pc := 93) dX8_text_93 rfl ?_
            refine v_geti (pc := 94) fl_X8_70 dX8_text_94 (by first | rfl | assumption) rfl ((g57 3 (by omega) (by omega)).trans hTx.1.1) ?_
            refine g_iconst (pc := 97) (v := (nI 1)) dX8_text_97 (by decide) ?_
            refine v_iadd (pc := 98) dX8_text_98 (nI_succ tc).symm ?_
            refine a_puti (pc := 99) fw_X8_70 dX8_text_99 (by first | rfl | assumption) rfl ?_
            refine g_aload_n (pc := 102) dX8_text_102 rfl ?_
            refine v_geti (pc := 103) fl_X8_70 dX8_text_103 (by first | rfl | assumption) rfl mset_eq ?_
            refine g_iconst (pc := 106) (v := (nI 1)) dX8_text_106 (by decide) ?_
            refine v_isub (pc := 107) dX8_text_107 (pk_sub (by omega)) ?_
            refine g_ireturn (pc := 108) dX8_text_108 rfl (by first | rfl | decide) rfl ⟨_, rfl, ?_⟩
            refine Or.inr ⟨c6, fun c h1 h2 h3 => (mset_ne h1).trans (gk c h1 h2 h3), (mset_nj (by omega)).trans g6, Or.inl ⟨k1, by rw [Nat.add_sub_cancel], hTx.more c6 mset_eq (fun k hk => ?_) (fun k hk => ?_) ht.2.1 ?_ (fun j hj => ⟨?_, (ht.2.2 j hj).2⟩) k1, fun j h1 h2 h3 => (mset_nj h2).trans (g57 j h1 h3)⟩⟩
            · rw [mset_ne (by omega), g58]
              exact a3 k hk
            · rw [mset_ne (by omega)]
              exact g59n k hk
            · rw [mset_ne (by omega)]
              exact g59
            · rw [mset_ne (by omega), g58]
              exact a1 j hj
          · obtain ⟨k1, k2, k3⟩ := r3.resolve_left (fun q => c_81 q.2.1)
            refine g_bipush (pc := 84) (v := (-100)) dX8_text_84 (by decide) ?_
            refine g_aload_n (pc := 86) dX8_text_86 rfl ?_
            refine v_geti (pc := 87) fl_X8_161 dX8_text_87 (by first | rfl | assumption) rfl k3 ?_
            refine v_isub (pc := 90) dX8_text_90 rfl ?_
            refine g_ireturn (pc := 91) dX8_text_91 rfl (by first | rfl | decide) rfl ⟨_, rfl, ?_⟩
            exact Or.inr ⟨c6, gk, g6, Or.inr ⟨k1, rfl, hTx.less (g57 3 (by omega) (by omega)) (fun k hk => by rw [g58]; exact a3 k hk) g59n, fun j h1 h2 h3 => g57 j h1 h3⟩⟩
        · have c19 := nI_gt' (by omega) (by omega) c_19
          refine g_aload_n (pc := 22) dX8_text_22 rfl ?_
          refine a_getr (pc := 23) (q := 58) fl_X8_13 dX8_text_23 (by first | rfl | assumption) rfl rfl ?_
          refine g_sipush (pc := 26) (v := (nI 160)) dX8_text_26 (by decide) ?_
          refine g_aload_n (pc := 29) dX8_text_29 rfl ?_
          refine v_geti (pc := 30) fl_X8_70 dX8_text_30 (by first | rfl | assumption) rfl ((e57 3).trans hTx.1.1) ?_
          refine v_imul (pc := 33) dX8_text_33 (pk_mul 160 tc) ?_
          refine g_iload_n (pc := 34) dX8_text_34 rfl ?_
          refine v_iadd (pc := 35) dX8_text_35 (nI_add _ i) ?_
          refine g_aload_n (pc := 36) dX8_text_36 rfl ?_
          refine a_getr (pc := 37) (q := 60) fl_X8_20 dX8_text_37 (by first | rfl | assumption) rfl rfl ?_
          refine g_iload_n (pc := 40) dX8_text_40 rfl ?_
          refine v_iald (pc := 41) dX8_text_41 (by first | rfl | assumption) rfl (by omega) ((congrFun (a2 60 (by omega)) i).trans (ht.2.2 i c19).1) ?_
          refine a_iast (pc := 42) dX8_text_42 (by first | rfl | assumption) rfl (by omega) ?_
          refine a_iinc1 (pc := 43) dX8_text_43 (inc1 i) (by decide) rfl ?_
          refine g_goto (pc := 46) (tgt := 14) dX8_text_46 (by decide) ?_
          refine ih (tn - (i + 1)) (by omega) (i + 1) (by omega) _ ⟨fun k hk => ?_, fun k hk => (mset_nj (by omega)).trans (a3 k hk), fun c hc => (mset_ne hc).trans (a2 c hc)⟩ rfl
          rcases Nat.lt_or_ge k i with hki | hki
          · rw [mset_nj (by omega)]
            exact a1 k hki
          · obtain rfl : k = i := by omega
            exact mset_eq
    exact lp14 _ 0 (Nat.zero_le _) _ ⟨fun q hq => absurd hq (Nat.not_lt_zero q), fun _ _ => rfl, fun _ _ => rfl⟩ rfl
  · have c6 : tc = 6 := nI_eq' (by omega) (by omega) c_6
    refine g_bipush (pc := 9) (v := (-4)) dX8_text_9 (by decide) ?_
    refine g_ireturn (pc := 11) dX8_text_11 rfl (by first | rfl | decide) rfl ⟨_, rfl, ?_⟩
    exact Or.inl ⟨c6, rfl, rfl⟩
