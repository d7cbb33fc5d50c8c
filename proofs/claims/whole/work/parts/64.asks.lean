/-! ===== the model: ironing ===== -/
/-- the model's parts and iron -/
def MVw (μ : Mem) (v : View) : Prop := (μ 57 7 = nI (v 0 0) ∧ v 0 0 ≤ 9) ∧ (μ 57 8 = nI (v 0 1) ∧ v 0 1 ≤ 99) ∧ (μ 57 4 = nI (v 0 2) ∧ v 0 2 ≤ 5) ∧ (μ 57 11 = nI (v 0 3) ∧ v 0 3 ≤ 7) ∧ ∀ p, p < v 0 3 → (μ 61 p = nI (v 1 p) ∧ v 1 p ≤ 5) ∧ (μ 62 (3 * p) = nI (v 2 p) ∧ v 2 p ≤ 9) ∧ (μ 62 (3 * p + 1) = nI (v 3 p) ∧ v 3 p ≤ 99) ∧ μ 62 (3 * p + 2) = nI (v 4 p) ∧ v 4 p ≤ 127
theorem MVw.moved {μ μ1 : Mem} {v : View} (h : MVw μ v) (h1 : ∀ j, j < 12 → μ1 57 j = μ 57 j) (h2 : μ1 61 = μ 61) (h3 : μ1 62 = μ 62) : MVw μ1 v := by
  obtain ⟨a1, a2, a3, a4, a5⟩ := h
  exact ⟨⟨(h1 7 (by omega)).trans a1.1, a1.2⟩, ⟨(h1 8 (by omega)).trans a2.1, a2.2⟩, ⟨(h1 4 (by omega)).trans a3.1, a3.2⟩, ⟨(h1 11 (by omega)).trans a4.1, a4.2⟩, fun p hp => by rw [h2, h3]; exact a5 p hp⟩
theorem MVw.vb {μ : Mem} {v : View} (h : MVw μ v) : VB v := ⟨h.2.2.2.1.2, fun p hp => ⟨(h.2.2.2.2 p hp).1.2, (h.2.2.2.2 p hp).2.1.2, (h.2.2.2.2 p hp).2.2.1.2, (h.2.2.2.2 p hp).2.2.2.2⟩⟩
/-- the model's texts -/
def TXA (μ : Mem) (tc : Nat) (sz : Nat → Nat) (tb : Nat → Nat → Nat) : Prop := (μ 57 3 = nI tc ∧ 1 ≤ tc ∧ tc ≤ 6) ∧ ∀ t, t < tc → μ 59 t = nI (sz t) ∧ sz t ≤ 160 ∧ (∀ j, j < sz t → μ 58 (160 * t + j) = nI (tb t j) ∧ tb t j ≤ 255) ∧ rdOK (sz t) (tb t)
theorem TXA.moved {μ μ1 : Mem} {tc : Nat} {sz : Nat → Nat} {tb : Nat → Nat → Nat} (h : TXA μ tc sz tb) (h1 : μ1 57 3 = μ 57 3) (h2 : μ1 58 = μ 58) (h3 : μ1 59 = μ 59) : TXA μ1 tc sz tb := ⟨⟨h1.trans h.1.1, h.1.2⟩, fun t ht => by rw [h2, h3]; exact h.2 t ht⟩
def QM (sz : Nat → Nat) (tb : Nat → Nat → Nat) (r : Nat) : Nat → List Nat := fun e => rdC (sz r) (tb r) e
/-- the model's world -/
def MW (μ : Mem) (v : View) (tc : Nat) (sz : Nat → Nat) (tb : Nat → Nat → Nat) : Prop := MVw μ v ∧ TXA μ tc sz tb ∧ v 0 2 < tc
theorem MW.moved {μ μ1 : Mem} {v : View} {tc : Nat} {sz : Nat → Nat} {tb : Nat → Nat → Nat} (h : MW μ v tc sz tb) (h1 : ∀ j, j < 12 → μ1 57 j = μ 57 j) (h2 : ∀ k, 57 < k → k < 63 → μ1 k = μ k) : MW μ1 v tc sz tb := ⟨h.1.moved h1 (h2 61 (by omega) (by omega)) (h2 62 (by omega) (by omega)), h.2.1.moved (h1 3 (by omega)) (h2 58 (by omega) (by omega)) (h2 59 (by omega) (by omega)), h.2.2⟩
/-- creases and minutes in the midst of ironing -/
def MIr (μ : Mem) (v : View) (f : Nat → Nat) (m dry : Nat) : Prop := (∀ p, p < v 0 3 → μ 63 p = nI (f p) ∧ f p ≤ 99) ∧ μ 57 29 = nI m ∧ μ 57 30 = nI dry ∧ dry ≤ m ∧ m ≤ 2000
theorem MIr.moved {μ μ1 : Mem} {v : View} {f : Nat → Nat} {m dry : Nat} (h : MIr μ v f m dry) (h1 : μ1 63 = μ 63) (h2 : μ1 57 29 = μ 57 29) (h3 : μ1 57 30 = μ 57 30) : MIr μ1 v f m dry := ⟨fun p hp => by rw [h1]; exact h.1 p hp, h2.trans h.2.1, h3.trans h.2.2.1, h.2.2.2⟩
def AFm (μ μ1 : Mem) : Prop := (∀ k, k ≠ 57 → μ1 k = μ k) ∧ ∀ j, j < 12 ∨ 26 < j → μ1 57 j = μ 57 j
theorem AFm.trans {μ μ1 μ2 : Mem} (h : AFm μ μ1) (g : AFm μ1 μ2) : AFm μ μ2 := ⟨fun k hk => (g.1 k hk).trans (h.1 k hk), fun j hj => (g.2 j hj).trans (h.2 j hj)⟩
theorem MW.af {μ μ1 : Mem} {v : View} {tc : Nat} {sz : Nat → Nat} {tb : Nat → Nat → Nat} (h : MW μ v tc sz tb) (g : AFm μ μ1) : MW μ1 v tc sz tb := h.moved (fun j hj => g.2 j (Or.inl hj)) (fun k h1 h2 => g.1 k (by omega))
theorem MIr.af {μ μ1 : Mem} {v : View} {f : Nat → Nat} {m dry : Nat} (h : MIr μ v f m dry) (g : AFm μ μ1) : MIr μ1 v f m dry := h.moved (g.1 63 (by omega)) (g.2 29 (by omega)) (g.2 30 (by omega))
theorem wi_nat {W c : Nat} (h : W < 2 ^ 31) (hc : c < 2 ^ 31) : wiN (nI W) 0 c = nI (min c W) := by
  unfold wiN
  rw [if_neg (show ¬ nI W < nI 0 from nI_pos h)]
  by_cases h1 : nI c < nI W
  · rw [if_pos h1]
    have := nI_lt' hc h h1
    rw [show min c W = c by omega]
  · rw [if_neg h1]
    have := nI_ge' hc h h1
    rw [show min c W = W by omega]
theorem wi_damp {d k : Nat} (hd : d ≤ 99) (hk : k ≤ 2000) : wiN (nI d - nI k) 0 99 = nI (d - k) := by
  rcases Nat.lt_or_ge d k with h | h
  · unfold wiN
    have h1 : nI d - nI k < nI 0 := by
      rw [Int32.lt_iff_toInt_lt, pk_sub_toInt (by omega) (by omega)]
      have e0 : (nI 0).toInt = 0 := by decide
      rw [e0]
      omega
    rw [if_pos h1, show d - k = 0 by omega]
  · rw [pk_sub h, wi_nat (by omega) (by decide), show min 99 (d - k) = d - k by omega]
theorem wi_clip (e : Nat) (x : Int32) : wiN x 0 (tMost e) = nI (tclip e x) := by
  have ht := tMost_le e
  unfold tclip
  by_cases h : x < 0
  · unfold wiN
    rw [if_pos (show x < nI 0 from h), if_pos h]
  · rw [if_neg h]
    obtain ⟨k, hk, rfl⟩ := nI_of h
    rw [wi_nat (by omega) (by omega), nI_clamp (by omega)]
theorem TVm {sz : Nat → Nat} {tb : Nat → Nat → Nat} {r e m d h n c p : Nat} : tclip e (vl (nmF m d h n c p) (rdC (sz r) (tb r) e)) = TV (QM sz tb r) e m d h n c p := rfl
theorem c_X8_asks (v : View) (tc : Nat) (sz : Nat → Nat) (tb : Nat → Nat → Nat) (f : Nat → Nat) (m dry : Nat) (μ : Mem) (hW : MW μ v tc sz tb) (hI : MIr μ v f m dry) (p : Nat) (hp : p < v 0 3) (e : Nat) (he : e < 3) : CA eI yX8_asks cX8_asks 3 (some .int) 42 [.ref 57, .int (nI e), .int (nI p)] μ (fun r μ1 => r = nI (TV (QM sz tb (v 0 2)) e m (v 0 1 - (m - dry)) (v 0 0) (v 2 p) (f p) p) ∧ AFm μ μ1) := by
  obtain ⟨hV, hTx, hru⟩ := id hW
  obtain ⟨⟨v1, v1b⟩, ⟨v2, v2b⟩, ⟨v3, v3b⟩, ⟨v4, v4b⟩, v5⟩ := id hV
  obtain ⟨i1, i2, i3, i4, i5⟩ := id hI
  obtain ⟨⟨p1, p1b⟩, ⟨p2, p2b⟩, ⟨p3, p3b⟩, p4, p4b⟩ := v5 p hp
  obtain ⟨c1, c1b⟩ := i1 p hp
  refine CT.of false (by decide) (by decide) (L := [some (.ref 57), some (.int (nI e)), some (.int (nI p))]) rfl (Nat.le_of_ble_eq_true rfl) ?_
  refine g_aload_n (pc := 0) dX8_asks_0 rfl ?_
  refine g_aload_n (pc := 1) dX8_asks_1 rfl ?_
  refine v_geti (pc := 2) fl_X8_239 dX8_asks_2 (by first | rfl | assumption) rfl i2 ?_
  refine a_puti (pc := 5) fw_X8_181 dX8_asks_5 (by first | rfl | assumption) rfl ?_
  refine g_aload_n (pc := 8) dX8_asks_8 rfl ?_
  refine g_aload_n (pc := 9) dX8_asks_9 rfl ?_
  refine v_geti (pc := 10) fl_X8_26 dX8_asks_10 (by first | rfl | assumption) rfl ((mset_nj (by omega)).trans v2) ?_
  refine g_aload_n (pc := 13) dX8_asks_13 rfl ?_
  refine v_geti (pc := 14) fl_X8_239 dX8_asks_14 (by first | rfl | assumption) rfl ((mset_nj (by omega)).trans i2) ?_
  refine g_aload_n (pc := 17) dX8_asks_17 rfl ?_
  refine v_geti (pc := 18) fl_X8_242 dX8_asks_18 (by first | rfl | assumption) rfl ((mset_nj (by omega)).trans i3) ?_
  refine v_isub (pc := 21) dX8_asks_21 (pk_sub i4) ?_
  refine v_isub (pc := 22) dX8_asks_22 rfl ?_
  refine g_iconst (pc := 23) (v := (nI 0)) dX8_asks_23 (by decide) ?_
  refine g_bipush (pc := 24) (v := (nI 99)) dX8_asks_24 (by decide) ?_
  refine a_cs3i (pc := 26) (c_X8_within (nI (v 0 1) - nI (m - dry)) 0 99 _) m_X8_within ml_X8_245 (by omega) (Nat.le_of_ble_eq_true rfl) dX8_asks_26 (fun x_26 μ_26 h_26 => ?_)
  obtain ⟨rfl, hm_26⟩ := h_26
  have hm_26 := hm_26.symm
  subst hm_26
  rw [wi_damp v2b (by omega)]
  refine a_puti (pc := 29) fw_X8_184 dX8_asks_29 (by first | rfl | assumption) rfl ?_
  refine g_aload_n (pc := 32) dX8_asks_32 rfl ?_
  refine g_aload_n (pc := 33) dX8_asks_33 rfl ?_
  refine v_geti (pc := 34) fl_X8_23 dX8_asks_34 (by first | rfl | assumption) rfl ((mset_nj (by omega)).trans ((mset_nj (by omega)).trans v1)) ?_
  refine a_puti (pc := 37) fw_X8_187 dX8_asks_37 (by first | rfl | assumption) rfl ?_
  refine g_aload_n (pc := 40) dX8_asks_40 rfl ?_
  refine g_aload_n (pc := 41) dX8_asks_41 rfl ?_
  refine a_getr (pc := 42) (q := 62) fl_X8_32 dX8_asks_42 (by first | rfl | assumption) rfl rfl ?_
  refine g_iconst (pc := 45) (v := (nI 3)) dX8_asks_45 (by decide) ?_
  refine g_iload_n (pc := 46) dX8_asks_46 rfl ?_
  refine v_imul (pc := 47) dX8_asks_47 (pk_mul 3 p) ?_
  refine v_iald (pc := 48) dX8_asks_48 (by first | rfl | assumption) rfl (by omega) ((congrFun (mset_ne (by omega)) _).trans ((congrFun (mset_ne (by omega)) _).trans ((congrFun (mset_ne (by omega)) _).trans p2))) ?_
  refine a_puti (pc := 49) fw_X8_190 dX8_asks_49 (by first | rfl | assumption) rfl ?_
  refine g_aload_n (pc := 52) dX8_asks_52 rfl ?_
  refine g_aload_n (pc := 53) dX8_asks_53 rfl ?_
  refine a_getr (pc := 54) (q := 63) fl_X8_35 dX8_asks_54 (by first | rfl | assumption) rfl rfl ?_
  refine g_iload_n (pc := 57) dX8_asks_57 rfl ?_
  refine v_iald (pc := 58) dX8_asks_58 (by first | rfl | assumption) rfl (by omega) ((congrFun (mset_ne (by omega)) _).trans ((congrFun (mset_ne (by omega)) _).trans ((congrFun (mset_ne (by omega)) _).trans ((congrFun (mset_ne (by omega)) _).trans c1)))) ?_
  refine a_puti (pc := 59) fw_X8_193 dX8_asks_59 (by first | rfl | assumption) rfl ?_
  refine g_aload_n (pc := 62) dX8_asks_62 rfl ?_
  refine g_iload_n (pc := 63) dX8_asks_63 rfl ?_
  refine a_puti (pc := 64) fw_X8_196 dX8_asks_64 (by first | rfl | assumption) rfl ?_
  obtain ⟨κ, hκ⟩ : ∃ κ, κ = mset (mset (mset (mset (mset (mset μ 57 12 (nI m)) 57 13 (nI (v 0 1 - (m - dry)))) 57 14 (nI (v 0 0))) 57 15 (nI (v 2 p))) 57 16 (nI (f p))) 57 17 (nI p) := ⟨_, rfl⟩
  rw [← hκ]
  have a1 : ∀ k, k ≠ 57 → κ k = μ k := fun k hk => by rw [hκ, mset_ne hk, mset_ne hk, mset_ne hk, mset_ne hk, mset_ne hk, mset_ne hk]
  have a2 : ∀ j, j < 12 ∨ 17 < j → κ 57 j = μ 57 j := fun j hj => by rw [hκ, mset_nj (by omega), mset_nj (by omega), mset_nj (by omega), mset_nj (by omega), mset_nj (by omega), mset_nj (by omega)]
  have a3 : ∀ j, j < 6 → κ 57 (12 + j) = (nmF m (v 0 1 - (m - dry)) (v 0 0) (v 2 p) (f p) p) j := fun j hj => by
    rw [hκ]
    rcases (show j = 0 ∨ j = 1 ∨ j = 2 ∨ j = 3 ∨ j = 4 ∨ j = 5 by omega) with rfl | rfl | rfl | rfl | rfl | rfl
    · rw [mset_nj (by omega), mset_nj (by omega), mset_nj (by omega), mset_nj (by omega), mset_nj (by omega), mset_eq]
      rfl
    · rw [mset_nj (by omega), mset_nj (by omega), mset_nj (by omega), mset_nj (by omega), mset_eq]
      rfl
    · rw [mset_nj (by omega), mset_nj (by omega), mset_nj (by omega), mset_eq]
      rfl
    · rw [mset_nj (by omega), mset_nj (by omega), mset_eq]
      rfl
    · rw [mset_nj (by omega), mset_eq]
      rfl
    · rw [mset_eq]
      rfl
  obtain ⟨t1, t2, t3, t4⟩ := hTx.2 _ hru
  refine g_aload_n (pc := 67) dX8_asks_67 rfl ?_
  refine g_aload_n (pc := 68) dX8_asks_68 rfl ?_
  refine v_geti (pc := 69) fl_X8_98 dX8_asks_69 (by first | rfl | assumption) rfl ((a2 4 (by omega)).trans v3) ?_
  refine g_iload_n (pc := 72) dX8_asks_72 rfl ?_
  refine a_cv2i (pc := 73) (c_X8_read (v 0 2) (sz (v 0 2)) (by omega) (tb (v 0 2)) (nmF m (v 0 1 - (m - dry)) (v 0 0) (v 2 p) (f p) p) e he κ ((congrFun (a1 59 (by omega)) _).trans t1) t2 (fun j hj => ⟨(congrFun (a1 58 (by omega)) _).trans (t3 j hj).1, (t3 j hj).2⟩) a3) m_X8_read ml_X8_236 (by omega) (by first | rfl | assumption) rfl rfl (Nat.le_of_ble_eq_true rfl) dX8_asks_73 (fun x_73 μ_73 h_73 => ?_)
  obtain ⟨r1, r2, r3⟩ := h_73
  obtain ⟨-, -, r5⟩ := r3.resolve_right (fun q => q.1 t4)
  have fa : AFm μ μ_73 := ⟨fun k hk => (r1 k hk).trans (a1 k hk), fun j hj => (r2 j (by omega)).trans (a2 j (by omega))⟩
  refine g_iconst (pc := 76) (v := (nI 0)) dX8_asks_76 (by decide) ?_
  refine g_iload_n (pc := 77) dX8_asks_77 rfl ?_
  refine g_iconst (pc := 78) (v := (nI 1)) dX8_asks_78 (by decide) ?_
  refine g_icmp_ne (pc := 79) (tgt := 87) dX8_asks_79 (by decide) (fun c_79 => ?_) (fun c_79 => ?_)
  · have ce : tMost e = 99 := if_neg (fun h => c_79 (by rw [h]))
    refine g_bipush (pc := 87) (v := (nI 99)) dX8_asks_87 (by decide) ?_
    refine a_cs3i (pc := 89) (c_X8_within x_73 0 99 _) m_X8_within ml_X8_245 (by omega) (Nat.le_of_ble_eq_true rfl) dX8_asks_89 (fun x_89 μ_89 h_89 => ?_)
    obtain ⟨rfl, hm_89⟩ := h_89
    have hm_89 := hm_89.symm
    subst hm_89
    refine g_ireturn (pc := 92) dX8_asks_92 rfl (by first | rfl | decide) rfl ⟨_, rfl, ?_⟩
    refine ⟨?_, fa⟩
    rw [← TVm, ← r5, ← wi_clip, ce]
  · have ce : tMost e = 30 := if_pos (nI_eq' (by omega) (by omega) c_79)
    refine g_bipush (pc := 82) (v := (nI 30)) dX8_asks_82 (by decide) ?_
    refine g_goto (pc := 84) (tgt := 89) dX8_asks_84 (by decide) ?_
    refine a_cs3i (pc := 89) (c_X8_within x_73 0 30 _) m_X8_within ml_X8_245 (by omega) (Nat.le_of_ble_eq_true rfl) dX8_asks_89 (fun x_89 μ_89 h_89 => ?_)
    obtain ⟨rfl, hm_89⟩ := h_89
    have hm_89 := hm_89.symm
    subst hm_89
    refine g_ireturn (pc := 92) dX8_asks_92 rfl (by first | rfl | decide) rfl ⟨_, rfl, ?_⟩
    refine ⟨?_, fa⟩
    rw [← TVm, ← r5, ← wi_clip, ce]
theorem c_X8_keepsOf (v : View) (tc : Nat) (sz : Nat → Nat) (tb : Nat → Nat → Nat) (f : Nat → Nat) (m dry : Nat) (μ : Mem) (hW : MW μ v tc sz tb) (hI : MIr μ v f m dry) (p : Nat) (hp : p < v 0 3) : CA eI yX8_keepsOf cX8_keepsOf 7 (some .int) 43 [.ref 57, .int (nI p)] μ (fun r μ1 => r = nI (isKp v (QM sz tb (v 0 2)) dry p f m) ∧ AFm μ μ1) := by
  obtain ⟨hV, hTx, hru⟩ := id hW
  obtain ⟨⟨v1, v1b⟩, ⟨v2, v2b⟩, ⟨v3, v3b⟩, ⟨v4, v4b⟩, v5⟩ := id hV
  obtain ⟨i1, i2, i3, i4, i5⟩ := id hI
  obtain ⟨⟨p1, p1b⟩, ⟨p2, p2b⟩, ⟨p3, p3b⟩, p4, p4b⟩ := v5 p hp
  obtain ⟨c1, c1b⟩ := i1 p hp
  refine CT.of false (by decide) (by decide) (L := [some (.ref 57), some (.int (nI p)), none, none, none, none, none]) rfl (Nat.le_of_ble_eq_true rfl) ?_
  refine g_aload_n (pc := 0) dX8_keepsOf_0 rfl ?_
  refine a_getr (pc := 1) (q := 61) fl_X8_29 dX8_keepsOf_1 (by first | rfl | assumption) rfl rfl ?_
  refine g_iload_n (pc := 4) dX8_keepsOf_4 rfl ?_
  refine v_iald (pc := 5) dX8_keepsOf_5 (by first | rfl | assumption) rfl (by omega) p1 ?_
  refine a_ist2 (pc := 6) dX8_keepsOf_6 (by decide) rfl ?_
  refine g_aload_n (pc := 7) dX8_keepsOf_7 rfl ?_
  refine a_getr (pc := 8) (q := 62) fl_X8_32 dX8_keepsOf_8 (by first | rfl | assumption) rfl rfl ?_
  refine g_iconst (pc := 11) (v := (nI 3)) dX8_keepsOf_11 (by decide) ?_
  refine g_iload_n (pc := 12) dX8_keepsOf_12 rfl ?_
  refine v_imul (pc := 13) dX8_keepsOf_13 (pk_mul 3 p) ?_
  refine v_iald (pc := 14) dX8_keepsOf_14 (by first | rfl | assumption) rfl (by omega) p2 ?_
  refine a_ist3 (pc := 15) dX8_keepsOf_15 (by decide) rfl ?_
  refine g_aload_n (pc := 16) dX8_keepsOf_16 rfl ?_
  refine g_iconst (pc := 17) (v := (nI 0)) dX8_keepsOf_17 (by decide) ?_
  refine g_iload_n (pc := 18) dX8_keepsOf_18 rfl ?_
  refine a_cv2i (pc := 19) (c_X8_asks v tc sz tb f m dry μ hW hI p hp 0 (by decide)) m_X8_asks ml_X8_249 (by omega) (by first | rfl | assumption) rfl rfl (Nat.le_of_ble_eq_true rfl) dX8_keepsOf_19 (fun x_19 μ_19 h_19 => ?_)
  obtain ⟨rfl, fa⟩ := h_19
  have hTV := TV_le (QM sz tb (v 0 2)) 0 m (v 0 1 - (m - dry)) (v 0 0) (v 2 p) (f p) p
  obtain ⟨V, hVe⟩ : ∃ V, (TV (QM sz tb (v 0 2)) 0 m (v 0 1 - (m - dry)) (v 0 0) (v 2 p) (f p) p) = V := ⟨_, rfl⟩
  rw [hVe] at hTV ⊢
  refine a_ist4 (pc := 22) dX8_keepsOf_22 (by decide) rfl ?_
  refine g_aload_n (pc := 24) dX8_keepsOf_24 rfl ?_
  refine a_getr (pc := 25) (q := 63) fl_X8_35 dX8_keepsOf_25 (by first | rfl | assumption) rfl rfl ?_
  refine g_iload_n (pc := 28) dX8_keepsOf_28 rfl ?_
  refine v_iald (pc := 29) dX8_keepsOf_29 (by first | rfl | assumption) rfl (by omega) ((congrFun (fa.1 63 (by omega)) p).trans c1) ?_
  refine g_iconst (pc := 30) (v := (nI 2)) dX8_keepsOf_30 (by decide) ?_
  refine v_idiv (pc := 31) dX8_keepsOf_31 (by decide) (pk_div (by omega) (by decide) (by decide)) ?_
  refine a_ist5 (pc := 32) dX8_keepsOf_32 (by decide) rfl ?_
  refine g_iload_n (pc := 34) dX8_keepsOf_34 rfl ?_
  refine g_iconst (pc := 35) (v := (nI 1)) dX8_keepsOf_35 (by decide) ?_
  refine g_icmp_eq (pc := 36) (tgt := 44) dX8_keepsOf_36 (by decide) (fun c_36 => ?_) (fun c_36 => ?_)
  · have c36 : v 1 p = 1 := nI_eq' (by omega) (by omega) c_36
    refine g_iload (pc := 44) dX8_keepsOf_44 rfl ?_
    refine g_iconst (pc := 46) (v := (nI 2)) dX8_keepsOf_46 (by decide) ?_
    refine v_idiv (pc := 47) dX8_keepsOf_47 (by decide) (pk_div (by omega) (by decide) (by decide)) ?_
    refine g_goto (pc := 48) (tgt := 105) dX8_keepsOf_48 (by decide) ?_
    refine a_ist6 (pc := 105) dX8_keepsOf_105 (by decide) rfl ?_
    refine g_iload (pc := 107) dX8_keepsOf_107 rfl ?_
    refine g_iconst (pc := 109) (v := (nI 0)) dX8_keepsOf_109 (by decide) ?_
    refine g_bipush (pc := 110) (v := (nI 99)) dX8_keepsOf_110 (by decide) ?_
    refine a_cs3i (pc := 112) (c_X8_within _ 0 99 _) m_X8_within ml_X8_245 (by omega) (Nat.le_of_ble_eq_true rfl) dX8_keepsOf_112 (fun x_112 μ_112 h_112 => ?_)
    obtain ⟨rfl, hm_112⟩ := h_112
    have hm_112 := hm_112.symm
    subst hm_112
    rw [wi_nat (by omega) (by decide)]
    refine g_ireturn (pc := 115) dX8_keepsOf_115 rfl (by first | rfl | decide) rfl ⟨_, rfl, ?_⟩
    refine ⟨congrArg nI ?_, fa⟩
    unfold isKp kKeeps
    rw [hVe]
    repeat' split
    all_goals omega
  · have c36 : ¬ v 1 p = 1 := fun h => c_36 (by rw [h])
    refine g_iload_n (pc := 39) dX8_keepsOf_39 rfl ?_
    refine g_iconst (pc := 40) (v := (nI 3)) dX8_keepsOf_40 (by decide) ?_
    refine g_icmp_ne (pc := 41) (tgt := 51) dX8_keepsOf_41 (by decide) (fun c_41 => ?_) (fun c_41 => ?_)
    · have c41 : ¬ v 1 p = 3 := fun h => c_41 (by rw [h])
      refine g_iload_n (pc := 51) dX8_keepsOf_51 rfl ?_
      refine g_iconst (pc := 52) (v := (nI 2)) dX8_keepsOf_52 (by decide) ?_
      refine g_icmp_ne (pc := 53) (tgt := 63) dX8_keepsOf_53 (by decide) (fun c_53 => ?_) (fun c_53 => ?_)
      · have c53 : ¬ v 1 p = 2 := fun h => c_53 (by rw [h])
        refine g_iload_n (pc := 63) dX8_keepsOf_63 rfl ?_
        refine g_iconst (pc := 64) (v := (nI 4)) dX8_keepsOf_64 (by decide) ?_
        refine g_icmp_ne (pc := 65) (tgt := 87) dX8_keepsOf_65 (by decide) (fun c_65 => ?_) (fun c_65 => ?_)
        · have c65 : ¬ v 1 p = 4 := fun h => c_65 (by rw [h])
          refine g_iload_n (pc := 87) dX8_keepsOf_87 rfl ?_
          refine g_iconst (pc := 88) (v := (nI 5)) dX8_keepsOf_88 (by decide) ?_
          refine g_icmp_ne (pc := 89) (tgt := 103) dX8_keepsOf_89 (by decide) (fun c_89 => ?_) (fun c_89 => ?_)
          · have c89 : ¬ v 1 p = 5 := fun h => c_89 (by rw [h])
            refine g_iload (pc := 103) dX8_keepsOf_103 rfl ?_
            refine a_ist6 (pc := 105) dX8_keepsOf_105 (by decide) rfl ?_
            refine g_iload (pc := 107) dX8_keepsOf_107 rfl ?_
            refine g_iconst (pc := 109) (v := (nI 0)) dX8_keepsOf_109 (by decide) ?_
            refine g_bipush (pc := 110) (v := (nI 99)) dX8_keepsOf_110 (by decide) ?_
            refine a_cs3i (pc := 112) (c_X8_within _ 0 99 _) m_X8_within ml_X8_245 (by omega) (Nat.le_of_ble_eq_true rfl) dX8_keepsOf_112 (fun x_112 μ_112 h_112 => ?_)
            obtain ⟨rfl, hm_112⟩ := h_112
            have hm_112 := hm_112.symm
            subst hm_112
            rw [wi_nat (by omega) (by decide)]
            refine g_ireturn (pc := 115) dX8_keepsOf_115 rfl (by first | rfl | decide) rfl ⟨_, rfl, ?_⟩
            refine ⟨congrArg nI ?_, fa⟩
            unfold isKp kKeeps
            rw [hVe]
            repeat' split
            all_goals omega
          · have c89 : v 1 p = 5 := nI_eq' (by omega) (by omega) c_89
            refine g_aload_n (pc := 92) dX8_keepsOf_92 rfl ?_
            refine a_getr (pc := 93) (q := 63) fl_X8_35 dX8_keepsOf_93 (by first | rfl | assumption) rfl rfl ?_
            refine g_iload_n (pc := 96) dX8_keepsOf_96 rfl ?_
            refine v_iald (pc := 97) dX8_keepsOf_97 (by first | rfl | assumption) rfl (by omega) ((congrFun (fa.1 63 (by omega)) p).trans c1) ?_
            refine g_iconst (pc := 98) (v := (nI 3)) dX8_keepsOf_98 (by decide) ?_
            refine v_idiv (pc := 99) dX8_keepsOf_99 (by decide) (pk_div (by omega) (by decide) (by decide)) ?_
            refine g_goto (pc := 100) (tgt := 105) dX8_keepsOf_100 (by decide) ?_
            refine a_ist6 (pc := 105) dX8_keepsOf_105 (by decide) rfl ?_
            refine g_iload (pc := 107) dX8_keepsOf_107 rfl ?_
            refine g_iconst (pc := 109) (v := (nI 0)) dX8_keepsOf_109 (by decide) ?_
            refine g_bipush (pc := 110) (v := (nI 99)) dX8_keepsOf_110 (by decide) ?_
            refine a_cs3i (pc := 112) (c_X8_within _ 0 99 _) m_X8_within ml_X8_245 (by omega) (Nat.le_of_ble_eq_true rfl) dX8_keepsOf_112 (fun x_112 μ_112 h_112 => ?_)
            obtain ⟨rfl, hm_112⟩ := h_112
            have hm_112 := hm_112.symm
            subst hm_112
            rw [wi_nat (by omega) (by decide)]
            refine g_ireturn (pc := 115) dX8_keepsOf_115 rfl (by first | rfl | decide) rfl ⟨_, rfl, ?_⟩
            refine ⟨congrArg nI ?_, fa⟩
            unfold isKp kKeeps
            rw [hVe]
            repeat' split
            all_goals omega
        · have c65 : v 1 p = 4 := nI_eq' (by omega) (by omega) c_65
          refine g_iload (pc := 68) dX8_keepsOf_68 rfl ?_
          refine g_iload (pc := 70) dX8_keepsOf_70 rfl ?_
          refine g_icmp_ge (pc := 72) (tgt := 80) dX8_keepsOf_72 (by decide) (fun c_72 => ?_) (fun c_72 => ?_)
          · have c72 := nI_le' (by omega) (by omega) c_72
            refine g_iload (pc := 80) dX8_keepsOf_80 rfl ?_
            refine g_iload_n (pc := 82) dX8_keepsOf_82 rfl ?_
            refine v_iadd (pc := 83) dX8_keepsOf_83 (nI_add _ _) ?_
            refine g_goto (pc := 84) (tgt := 105) dX8_keepsOf_84 (by decide) ?_
            refine a_ist6 (pc := 105) dX8_keepsOf_105 (by decide) rfl ?_
            refine g_iload (pc := 107) dX8_keepsOf_107 rfl ?_
            refine g_iconst (pc := 109) (v := (nI 0)) dX8_keepsOf_109 (by decide) ?_
            refine g_bipush (pc := 110) (v := (nI 99)) dX8_keepsOf_110 (by decide) ?_
            refine a_cs3i (pc := 112) (c_X8_within _ 0 99 _) m_X8_within ml_X8_245 (by omega) (Nat.le_of_ble_eq_true rfl) dX8_keepsOf_112 (fun x_112 μ_112 h_112 => ?_)
            obtain ⟨rfl, hm_112⟩ := h_112
            have hm_112 := hm_112.symm
            subst hm_112
            rw [wi_nat (by omega) (by decide)]
            refine g_ireturn (pc := 115) dX8_keepsOf_115 rfl (by first | rfl | decide) rfl ⟨_, rfl, ?_⟩
            refine ⟨congrArg nI ?_, fa⟩
            unfold isKp kKeeps
            rw [hVe]
            repeat' split
            all_goals omega
          · have c72 := nI_gt' (by omega) (by omega) c_72
            refine g_iload (pc := 75) dX8_keepsOf_75 rfl ?_
            refine g_goto (pc := 77) (tgt := 82) dX8_keepsOf_77 (by decide) ?_
            refine g_iload_n (pc := 82) dX8_keepsOf_82 rfl ?_
            refine v_iadd (pc := 83) dX8_keepsOf_83 (nI_add _ _) ?_
            refine g_goto (pc := 84) (tgt := 105) dX8_keepsOf_84 (by decide) ?_
            refine a_ist6 (pc := 105) dX8_keepsOf_105 (by decide) rfl ?_
            refine g_iload (pc := 107) dX8_keepsOf_107 rfl ?_
            refine g_iconst (pc := 109) (v := (nI 0)) dX8_keepsOf_109 (by decide) ?_
            refine g_bipush (pc := 110) (v := (nI 99)) dX8_keepsOf_110 (by decide) ?_
            refine a_cs3i (pc := 112) (c_X8_within _ 0 99 _) m_X8_within ml_X8_245 (by omega) (Nat.le_of_ble_eq_true rfl) dX8_keepsOf_112 (fun x_112 μ_112 h_112 => ?_)
            obtain ⟨rfl, hm_112⟩ := h_112
            have hm_112 := hm_112.symm
            subst hm_112
            rw [wi_nat (by omega) (by decide)]
            refine g_ireturn (pc := 115) dX8_keepsOf_115 rfl (by first | rfl | decide) rfl ⟨_, rfl, ?_⟩
            refine ⟨congrArg nI ?_, fa⟩
            unfold isKp kKeeps
            rw [hVe]
            repeat' split
            all_goals omega
      · have c53 : v 1 p = 2 := nI_eq' (by omega) (by omega) c_53
        refine g_iload (pc := 56) dX8_keepsOf_56 rfl ?_
        refine g_iload_n (pc := 58) dX8_keepsOf_58 rfl ?_
        refine v_iadd (pc := 59) dX8_keepsOf_59 (nI_add _ _) ?_
        refine g_goto (pc := 60) (tgt := 105) dX8_keepsOf_60 (by decide) ?_
        refine a_ist6 (pc := 105) dX8_keepsOf_105 (by decide) rfl ?_
        refine g_iload (pc := 107) dX8_keepsOf_107 rfl ?_
        refine g_iconst (pc := 109) (v := (nI 0)) dX8_keepsOf_109 (by decide) ?_
        refine g_bipush (pc := 110) (v := (nI 99)) dX8_keepsOf_110 (by decide) ?_
        refine a_cs3i (pc := 112) (c_X8_within _ 0 99 _) m_X8_within ml_X8_245 (by omega) (Nat.le_of_ble_eq_true rfl) dX8_keepsOf_112 (fun x_112 μ_112 h_112 => ?_)
        obtain ⟨rfl, hm_112⟩ := h_112
        have hm_112 := hm_112.symm
        subst hm_112
        rw [wi_nat (by omega) (by decide)]
        refine g_ireturn (pc := 115) dX8_keepsOf_115 rfl (by first | rfl | decide) rfl ⟨_, rfl, ?_⟩
        refine ⟨congrArg nI ?_, fa⟩
        unfold isKp kKeeps
        rw [hVe]
        repeat' split
        all_goals omega
    · have c41 : v 1 p = 3 := nI_eq' (by omega) (by omega) c_41
      refine g_iload (pc := 44) dX8_keepsOf_44 rfl ?_
      refine g_iconst (pc := 46) (v := (nI 2)) dX8_keepsOf_46 (by decide) ?_
      refine v_idiv (pc := 47) dX8_keepsOf_47 (by decide) (pk_div (by omega) (by decide) (by decide)) ?_
      refine g_goto (pc := 48) (tgt := 105) dX8_keepsOf_48 (by decide) ?_
      refine a_ist6 (pc := 105) dX8_keepsOf_105 (by decide) rfl ?_
      refine g_iload (pc := 107) dX8_keepsOf_107 rfl ?_
      refine g_iconst (pc := 109) (v := (nI 0)) dX8_keepsOf_109 (by decide) ?_
      refine g_bipush (pc := 110) (v := (nI 99)) dX8_keepsOf_110 (by decide) ?_
      refine a_cs3i (pc := 112) (c_X8_within _ 0 99 _) m_X8_within ml_X8_245 (by omega) (Nat.le_of_ble_eq_true rfl) dX8_keepsOf_112 (fun x_112 μ_112 h_112 => ?_)
      obtain ⟨rfl, hm_112⟩ := h_112
      have hm_112 := hm_112.symm
      subst hm_112
      rw [wi_nat (by omega) (by decide)]
      refine g_ireturn (pc := 115) dX8_keepsOf_115 rfl (by first | rfl | decide) rfl ⟨_, rfl, ?_⟩
      refine ⟨congrArg nI ?_, fa⟩
      unfold isKp kKeeps
      rw [hVe]
      repeat' split
      all_goals omega
theorem c_X8_takesOf (v : View) (tc : Nat) (sz : Nat → Nat) (tb : Nat → Nat → Nat) (f : Nat → Nat) (m dry : Nat) (μ : Mem) (hW : MW μ v tc sz tb) (hI : MIr μ v f m dry) (p : Nat) (hp : p < v 0 3) : CA eI yX8_takesOf cX8_takesOf 5 (some .int) 43 [.ref 57, .int (nI p)] μ (fun r μ1 => r = nI (isTk v (QM sz tb (v 0 2)) dry p f m) ∧ AFm μ μ1) := by
  obtain ⟨hV, hTx, hru⟩ := id hW
  obtain ⟨⟨v1, v1b⟩, ⟨v2, v2b⟩, ⟨v3, v3b⟩, ⟨v4, v4b⟩, v5⟩ := id hV
  obtain ⟨i1, i2, i3, i4, i5⟩ := id hI
  obtain ⟨⟨p1, p1b⟩, ⟨p2, p2b⟩, ⟨p3, p3b⟩, p4, p4b⟩ := v5 p hp
  obtain ⟨c1, c1b⟩ := i1 p hp
  refine CT.of false (by decide) (by decide) (L := [some (.ref 57), some (.int (nI p)), none, none, none]) rfl (Nat.le_of_ble_eq_true rfl) ?_
  refine g_aload_n (pc := 0) dX8_takesOf_0 rfl ?_
  refine a_getr (pc := 1) (q := 61) fl_X8_29 dX8_takesOf_1 (by first | rfl | assumption) rfl rfl ?_
  refine g_iload_n (pc := 4) dX8_takesOf_4 rfl ?_
  refine v_iald (pc := 5) dX8_takesOf_5 (by first | rfl | assumption) rfl (by omega) p1 ?_
  refine a_ist2 (pc := 6) dX8_takesOf_6 (by decide) rfl ?_
  refine g_aload_n (pc := 7) dX8_takesOf_7 rfl ?_
  refine g_iconst (pc := 8) (v := (nI 1)) dX8_takesOf_8 (by decide) ?_
  refine g_iload_n (pc := 9) dX8_takesOf_9 rfl ?_
  refine a_cv2i (pc := 10) (c_X8_asks v tc sz tb f m dry μ hW hI p hp 1 (by decide)) m_X8_asks ml_X8_249 (by omega) (by first | rfl | assumption) rfl rfl (Nat.le_of_ble_eq_true rfl) dX8_takesOf_10 (fun x_10 μ_10 h_10 => ?_)
  obtain ⟨rfl, fa⟩ := h_10
  have hTV := TV_le (QM sz tb (v 0 2)) 1 m (v 0 1 - (m - dry)) (v 0 0) (v 2 p) (f p) p
  obtain ⟨V, hVe⟩ : ∃ V, (TV (QM sz tb (v 0 2)) 1 m (v 0 1 - (m - dry)) (v 0 0) (v 2 p) (f p) p) = V := ⟨_, rfl⟩
  rw [hVe] at hTV ⊢
  refine a_ist3 (pc := 13) dX8_takesOf_13 (by decide) rfl ?_
  refine g_iload_n (pc := 14) dX8_takesOf_14 rfl ?_
  refine g_iconst (pc := 15) (v := (nI 1)) dX8_takesOf_15 (by decide) ?_
  refine g_icmp_ne (pc := 16) (tgt := 25) dX8_takesOf_16 (by decide) (fun c_16 => ?_) (fun c_16 => ?_)
  · have c16 : ¬ v 1 p = 1 := fun h => c_16 (by rw [h])
    refine g_iload_n (pc := 25) dX8_takesOf_25 rfl ?_
    refine g_iconst (pc := 26) (v := (nI 3)) dX8_takesOf_26 (by decide) ?_
    refine g_icmp_ne (pc := 27) (tgt := 45) dX8_takesOf_27 (by decide) (fun c_27 => ?_) (fun c_27 => ?_)
    · have c27 : ¬ v 1 p = 3 := fun h => c_27 (by rw [h])
      refine g_iload_n (pc := 45) dX8_takesOf_45 rfl ?_
      refine g_iconst (pc := 46) (v := (nI 4)) dX8_takesOf_46 (by decide) ?_
      refine g_icmp_ne (pc := 47) (tgt := 56) dX8_takesOf_47 (by decide) (fun c_47 => ?_) (fun c_47 => ?_)
      · have c47 : ¬ v 1 p = 4 := fun h => c_47 (by rw [h])
        refine g_iload_n (pc := 56) dX8_takesOf_56 rfl ?_
        refine g_iconst (pc := 57) (v := (nI 5)) dX8_takesOf_57 (by decide) ?_
        refine g_icmp_ne (pc := 58) (tgt := 65) dX8_takesOf_58 (by decide) (fun c_58 => ?_) (fun c_58 => ?_)
        · have c58 : ¬ v 1 p = 5 := fun h => c_58 (by rw [h])
          refine g_iload_n (pc := 65) dX8_takesOf_65 rfl ?_
          refine a_ist4 (pc := 66) dX8_takesOf_66 (by decide) rfl ?_
          refine g_iload (pc := 68) dX8_takesOf_68 rfl ?_
          refine g_iconst (pc := 70) (v := (nI 1)) dX8_takesOf_70 (by decide) ?_
          refine g_icmp_ge (pc := 71) (tgt := 78) dX8_takesOf_71 (by decide) (fun c_71 => ?_) (fun c_71 => ?_)
          · have c71 := nI_le' (by omega) (by omega) c_71
            refine g_iload (pc := 78) dX8_takesOf_78 rfl ?_
            refine g_ireturn (pc := 80) dX8_takesOf_80 rfl (by first | rfl | decide) rfl ⟨_, rfl, ?_⟩
            refine ⟨congrArg nI ?_, fa⟩
            unfold isTk kTakes
            rw [hVe]
            repeat' split
            all_goals omega
          · have c71 := nI_gt' (by omega) (by omega) c_71
            refine g_iconst (pc := 74) (v := (nI 1)) dX8_takesOf_74 (by decide) ?_
            refine g_goto (pc := 75) (tgt := 80) dX8_takesOf_75 (by decide) ?_
            refine g_ireturn (pc := 80) dX8_takesOf_80 rfl (by first | rfl | decide) rfl ⟨_, rfl, ?_⟩
            refine ⟨congrArg nI ?_, fa⟩
            unfold isTk kTakes
            rw [hVe]
            repeat' split
            all_goals omega
        · have c58 : v 1 p = 5 := nI_eq' (by omega) (by omega) c_58
          refine g_iconst (pc := 61) (v := (nI 1)) dX8_takesOf_61 (by decide) ?_
          refine g_goto (pc := 62) (tgt := 66) dX8_takesOf_62 (by decide) ?_
          refine a_ist4 (pc := 66) dX8_takesOf_66 (by decide) rfl ?_
          refine g_iload (pc := 68) dX8_takesOf_68 rfl ?_
          refine g_iconst (pc := 70) (v := (nI 1)) dX8_takesOf_70 (by decide) ?_
          refine g_icmp_ge (pc := 71) (tgt := 78) dX8_takesOf_71 (by decide) (fun c_71 => ?_) (fun c_71 => ?_)
          · have c71 := nI_le' (by omega) (by omega) c_71
            refine g_iload (pc := 78) dX8_takesOf_78 rfl ?_
            refine g_ireturn (pc := 80) dX8_takesOf_80 rfl (by first | rfl | decide) rfl ⟨_, rfl, ?_⟩
            refine ⟨congrArg nI ?_, fa⟩
            unfold isTk kTakes
            rw [hVe]
            repeat' split
            all_goals omega
          · have c71 := nI_gt' (by omega) (by omega) c_71
            refine g_iconst (pc := 74) (v := (nI 1)) dX8_takesOf_74 (by decide) ?_
            refine g_goto (pc := 75) (tgt := 80) dX8_takesOf_75 (by decide) ?_
            refine g_ireturn (pc := 80) dX8_takesOf_80 rfl (by first | rfl | decide) rfl ⟨_, rfl, ?_⟩
            refine ⟨congrArg nI ?_, fa⟩
            unfold isTk kTakes
            rw [hVe]
            repeat' split
            all_goals omega
      · have c47 : v 1 p = 4 := nI_eq' (by omega) (by omega) c_47
        refine g_iload_n (pc := 50) dX8_takesOf_50 rfl ?_
        refine g_iconst (pc := 51) (v := (nI 2)) dX8_takesOf_51 (by decide) ?_
        refine v_idiv (pc := 52) dX8_takesOf_52 (by decide) (pk_div (by omega) (by decide) (by decide)) ?_
        refine g_goto (pc := 53) (tgt := 66) dX8_takesOf_53 (by decide) ?_
        refine a_ist4 (pc := 66) dX8_takesOf_66 (by decide) rfl ?_
        refine g_iload (pc := 68) dX8_takesOf_68 rfl ?_
        refine g_iconst (pc := 70) (v := (nI 1)) dX8_takesOf_70 (by decide) ?_
        refine g_icmp_ge (pc := 71) (tgt := 78) dX8_takesOf_71 (by decide) (fun c_71 => ?_) (fun c_71 => ?_)
        · have c71 := nI_le' (by omega) (by omega) c_71
          refine g_iload (pc := 78) dX8_takesOf_78 rfl ?_
          refine g_ireturn (pc := 80) dX8_takesOf_80 rfl (by first | rfl | decide) rfl ⟨_, rfl, ?_⟩
          refine ⟨congrArg nI ?_, fa⟩
          unfold isTk kTakes
          rw [hVe]
          repeat' split
          all_goals omega
        · have c71 := nI_gt' (by omega) (by omega) c_71
          refine g_iconst (pc := 74) (v := (nI 1)) dX8_takesOf_74 (by decide) ?_
          refine g_goto (pc := 75) (tgt := 80) dX8_takesOf_75 (by decide) ?_
          refine g_ireturn (pc := 80) dX8_takesOf_80 rfl (by first | rfl | decide) rfl ⟨_, rfl, ?_⟩
          refine ⟨congrArg nI ?_, fa⟩
          unfold isTk kTakes
          rw [hVe]
          repeat' split
          all_goals omega
    · have c27 : v 1 p = 3 := nI_eq' (by omega) (by omega) c_27
      refine g_iconst (pc := 30) (v := (nI 2)) dX8_takesOf_30 (by decide) ?_
      refine g_iload_n (pc := 31) dX8_takesOf_31 rfl ?_
      refine v_imul (pc := 32) dX8_takesOf_32 (pk_mul 2 _) ?_
      refine g_aload_n (pc := 33) dX8_takesOf_33 rfl ?_
      refine a_getr (pc := 34) (q := 62) fl_X8_32 dX8_takesOf_34 (by first | rfl | assumption) rfl rfl ?_
      refine g_iconst (pc := 37) (v := (nI 3)) dX8_takesOf_37 (by decide) ?_
      refine g_iload_n (pc := 38) dX8_takesOf_38 rfl ?_
      refine v_imul (pc := 39) dX8_takesOf_39 (pk_mul 3 p) ?_
      refine v_iald (pc := 40) dX8_takesOf_40 (by first | rfl | assumption) rfl (by omega) ((congrFun (fa.1 62 (by omega)) _).trans p2) ?_
      refine v_iadd (pc := 41) dX8_takesOf_41 (nI_add _ _) ?_
      refine g_goto (pc := 42) (tgt := 66) dX8_takesOf_42 (by decide) ?_
      refine a_ist4 (pc := 66) dX8_takesOf_66 (by decide) rfl ?_
      refine g_iload (pc := 68) dX8_takesOf_68 rfl ?_
      refine g_iconst (pc := 70) (v := (nI 1)) dX8_takesOf_70 (by decide) ?_
      refine g_icmp_ge (pc := 71) (tgt := 78) dX8_takesOf_71 (by decide) (fun c_71 => ?_) (fun c_71 => ?_)
      · have c71 := nI_le' (by omega) (by omega) c_71
        refine g_iload (pc := 78) dX8_takesOf_78 rfl ?_
        refine g_ireturn (pc := 80) dX8_takesOf_80 rfl (by first | rfl | decide) rfl ⟨_, rfl, ?_⟩
        refine ⟨congrArg nI ?_, fa⟩
        unfold isTk kTakes
        rw [hVe]
        repeat' split
        all_goals omega
      · have c71 := nI_gt' (by omega) (by omega) c_71
        refine g_iconst (pc := 74) (v := (nI 1)) dX8_takesOf_74 (by decide) ?_
        refine g_goto (pc := 75) (tgt := 80) dX8_takesOf_75 (by decide) ?_
        refine g_ireturn (pc := 80) dX8_takesOf_80 rfl (by first | rfl | decide) rfl ⟨_, rfl, ?_⟩
        refine ⟨congrArg nI ?_, fa⟩
        unfold isTk kTakes
        rw [hVe]
        repeat' split
        all_goals omega
  · have c16 : v 1 p = 1 := nI_eq' (by omega) (by omega) c_16
    refine g_iconst (pc := 19) (v := (nI 2)) dX8_takesOf_19 (by decide) ?_
    refine g_iload_n (pc := 20) dX8_takesOf_20 rfl ?_
    refine v_imul (pc := 21) dX8_takesOf_21 (pk_mul 2 _) ?_
    refine g_goto (pc := 22) (tgt := 66) dX8_takesOf_22 (by decide) ?_
    refine a_ist4 (pc := 66) dX8_takesOf_66 (by decide) rfl ?_
    refine g_iload (pc := 68) dX8_takesOf_68 rfl ?_
    refine g_iconst (pc := 70) (v := (nI 1)) dX8_takesOf_70 (by decide) ?_
    refine g_icmp_ge (pc := 71) (tgt := 78) dX8_takesOf_71 (by decide) (fun c_71 => ?_) (fun c_71 => ?_)
    · have c71 := nI_le' (by omega) (by omega) c_71
      refine g_iload (pc := 78) dX8_takesOf_78 rfl ?_
      refine g_ireturn (pc := 80) dX8_takesOf_80 rfl (by first | rfl | decide) rfl ⟨_, rfl, ?_⟩
      refine ⟨congrArg nI ?_, fa⟩
      unfold isTk kTakes
      rw [hVe]
      repeat' split
      all_goals omega
    · have c71 := nI_gt' (by omega) (by omega) c_71
      refine g_iconst (pc := 74) (v := (nI 1)) dX8_takesOf_74 (by decide) ?_
      refine g_goto (pc := 75) (tgt := 80) dX8_takesOf_75 (by decide) ?_
      refine g_ireturn (pc := 80) dX8_takesOf_80 rfl (by first | rfl | decide) rfl ⟨_, rfl, ?_⟩
      refine ⟨congrArg nI ?_, fa⟩
      unfold isTk kTakes
      rw [hVe]
      repeat' split
      all_goals omega
theorem cr_lem : ∀ V, V < 100 → (nI V - nI 2 < 0 → V < 2) ∧ (¬ nI V - nI 2 < 0 → nI V - nI 2 = nI (V - 2)) := by decide +kernel
theorem c_X8_crumplesOf (v : View) (tc : Nat) (sz : Nat → Nat) (tb : Nat → Nat → Nat) (f : Nat → Nat) (m dry : Nat) (μ : Mem) (hW : MW μ v tc sz tb) (hI : MIr μ v f m dry) (p : Nat) (hp : p < v 0 3) : CA eI yX8_crumplesOf cX8_crumplesOf 5 (some .int) 43 [.ref 57, .int (nI p)] μ (fun r μ1 => r = nI (isCr v (QM sz tb (v 0 2)) dry f m p) ∧ AFm μ μ1) := by
  obtain ⟨hV, hTx, hru⟩ := id hW
  obtain ⟨⟨v1, v1b⟩, ⟨v2, v2b⟩, ⟨v3, v3b⟩, ⟨v4, v4b⟩, v5⟩ := id hV
  obtain ⟨i1, i2, i3, i4, i5⟩ := id hI
  obtain ⟨⟨p1, p1b⟩, ⟨p2, p2b⟩, ⟨p3, p3b⟩, p4, p4b⟩ := v5 p hp
  obtain ⟨c1, c1b⟩ := i1 p hp
  refine CT.of false (by decide) (by decide) (L := [some (.ref 57), some (.int (nI p)), none, none, none]) rfl (Nat.le_of_ble_eq_true rfl) ?_
  refine g_aload_n (pc := 0) dX8_crumplesOf_0 rfl ?_
  refine a_getr (pc := 1) (q := 61) fl_X8_29 dX8_crumplesOf_1 (by first | rfl | assumption) rfl rfl ?_
  refine g_iload_n (pc := 4) dX8_crumplesOf_4 rfl ?_
  refine v_iald (pc := 5) dX8_crumplesOf_5 (by first | rfl | assumption) rfl (by omega) p1 ?_
  refine a_ist2 (pc := 6) dX8_crumplesOf_6 (by decide) rfl ?_
  refine g_aload_n (pc := 7) dX8_crumplesOf_7 rfl ?_
  refine g_iconst (pc := 8) (v := (nI 2)) dX8_crumplesOf_8 (by decide) ?_
  refine g_iload_n (pc := 9) dX8_crumplesOf_9 rfl ?_
  refine a_cv2i (pc := 10) (c_X8_asks v tc sz tb f m dry μ hW hI p hp 2 (by decide)) m_X8_asks ml_X8_249 (by omega) (by first | rfl | assumption) rfl rfl (Nat.le_of_ble_eq_true rfl) dX8_crumplesOf_10 (fun x_10 μ_10 h_10 => ?_)
  obtain ⟨rfl, fa⟩ := h_10
  have hTV := TV_le (QM sz tb (v 0 2)) 2 m (v 0 1 - (m - dry)) (v 0 0) (v 2 p) (f p) p
  obtain ⟨V, hVe⟩ : ∃ V, (TV (QM sz tb (v 0 2)) 2 m (v 0 1 - (m - dry)) (v 0 0) (v 2 p) (f p) p) = V := ⟨_, rfl⟩
  rw [hVe] at hTV ⊢
  refine a_ist3 (pc := 13) dX8_crumplesOf_13 (by decide) rfl ?_
  refine g_iload_n (pc := 14) dX8_crumplesOf_14 rfl ?_
  refine g_iconst (pc := 15) (v := (nI 1)) dX8_crumplesOf_15 (by decide) ?_
  refine g_icmp_eq (pc := 16) (tgt := 24) dX8_crumplesOf_16 (by decide) (fun c_16 => ?_) (fun c_16 => ?_)
  · have c16 : v 1 p = 1 := nI_eq' (by omega) (by omega) c_16
    refine g_iload_n (pc := 24) dX8_crumplesOf_24 rfl ?_
    refine g_iconst (pc := 25) (v := (nI 2)) dX8_crumplesOf_25 (by decide) ?_
    refine v_isub (pc := 26) dX8_crumplesOf_26 rfl ?_
    refine g_goto (pc := 27) (tgt := 56) dX8_crumplesOf_27 (by decide) ?_
    refine a_ist4 (pc := 56) dX8_crumplesOf_56 (by decide) rfl ?_
    refine g_iload (pc := 58) dX8_crumplesOf_58 rfl ?_
    refine g_if_ge (pc := 60) (tgt := 67) dX8_crumplesOf_60 (by decide) (fun c_60 => ?_) (fun c_60 => ?_)
    · have c60 := Int32.not_lt.mpr c_60
      refine g_iload (pc := 67) dX8_crumplesOf_67 rfl ?_
      refine g_ireturn (pc := 69) dX8_crumplesOf_69 rfl (by first | rfl | decide) rfl ⟨_, rfl, ?_⟩
      refine ⟨?_, fa⟩
      unfold isCr kCrumples
      rw [hVe]
      first
        | (rw [(cr_lem V (by omega)).2 c60]
           refine congrArg nI ?_
           repeat' split
           all_goals omega)
        | (have c2 := (cr_lem V (by omega)).1 c60
           refine congrArg nI ?_
           repeat' split
           all_goals omega)
        | (refine congrArg nI ?_
           repeat' split
           all_goals omega)
        | exact absurd c60 (nI_pos (by omega))
    · have c60 := Int32.not_le.mp c_60
      refine g_iconst (pc := 63) (v := (nI 0)) dX8_crumplesOf_63 (by decide) ?_
      refine g_goto (pc := 64) (tgt := 69) dX8_crumplesOf_64 (by decide) ?_
      refine g_ireturn (pc := 69) dX8_crumplesOf_69 rfl (by first | rfl | decide) rfl ⟨_, rfl, ?_⟩
      refine ⟨?_, fa⟩
      unfold isCr kCrumples
      rw [hVe]
      first
        | (rw [(cr_lem V (by omega)).2 c60]
           refine congrArg nI ?_
           repeat' split
           all_goals omega)
        | (have c2 := (cr_lem V (by omega)).1 c60
           refine congrArg nI ?_
           repeat' split
           all_goals omega)
        | (refine congrArg nI ?_
           repeat' split
           all_goals omega)
        | exact absurd c60 (nI_pos (by omega))
  · have c16 : ¬ v 1 p = 1 := fun h => c_16 (by rw [h])
    refine g_iload_n (pc := 19) dX8_crumplesOf_19 rfl ?_
    refine g_iconst (pc := 20) (v := (nI 3)) dX8_crumplesOf_20 (by decide) ?_
    refine g_icmp_ne (pc := 21) (tgt := 30) dX8_crumplesOf_21 (by decide) (fun c_21 => ?_) (fun c_21 => ?_)
    · have c21 : ¬ v 1 p = 3 := fun h => c_21 (by rw [h])
      refine g_iload_n (pc := 30) dX8_crumplesOf_30 rfl ?_
      refine g_iconst (pc := 31) (v := (nI 2)) dX8_crumplesOf_31 (by decide) ?_
      refine g_icmp_eq (pc := 32) (tgt := 40) dX8_crumplesOf_32 (by decide) (fun c_32 => ?_) (fun c_32 => ?_)
      · have c32 : v 1 p = 2 := nI_eq' (by omega) (by omega) c_32
        refine g_iconst (pc := 40) (v := (nI 2)) dX8_crumplesOf_40 (by decide) ?_
        refine g_iload_n (pc := 41) dX8_crumplesOf_41 rfl ?_
        refine v_imul (pc := 42) dX8_crumplesOf_42 (pk_mul 2 _) ?_
        refine g_goto (pc := 43) (tgt := 56) dX8_crumplesOf_43 (by decide) ?_
        refine a_ist4 (pc := 56) dX8_crumplesOf_56 (by decide) rfl ?_
        refine g_iload (pc := 58) dX8_crumplesOf_58 rfl ?_
        refine g_if_ge (pc := 60) (tgt := 67) dX8_crumplesOf_60 (by decide) (fun c_60 => ?_) (fun c_60 => ?_)
        · have c60 := Int32.not_lt.mpr c_60
          refine g_iload (pc := 67) dX8_crumplesOf_67 rfl ?_
          refine g_ireturn (pc := 69) dX8_crumplesOf_69 rfl (by first | rfl | decide) rfl ⟨_, rfl, ?_⟩
          refine ⟨?_, fa⟩
          unfold isCr kCrumples
          rw [hVe]
          first
            | (rw [(cr_lem V (by omega)).2 c60]
               refine congrArg nI ?_
               repeat' split
               all_goals omega)
            | (have c2 := (cr_lem V (by omega)).1 c60
               refine congrArg nI ?_
               repeat' split
               all_goals omega)
            | (refine congrArg nI ?_
               repeat' split
               all_goals omega)
            | exact absurd c60 (nI_pos (by omega))
        · have c60 := Int32.not_le.mp c_60
          refine g_iconst (pc := 63) (v := (nI 0)) dX8_crumplesOf_63 (by decide) ?_
          refine g_goto (pc := 64) (tgt := 69) dX8_crumplesOf_64 (by decide) ?_
          refine g_ireturn (pc := 69) dX8_crumplesOf_69 rfl (by first | rfl | decide) rfl ⟨_, rfl, ?_⟩
          refine ⟨?_, fa⟩
          unfold isCr kCrumples
          rw [hVe]
          first
            | (rw [(cr_lem V (by omega)).2 c60]
               refine congrArg nI ?_
               repeat' split
               all_goals omega)
            | (have c2 := (cr_lem V (by omega)).1 c60
               refine congrArg nI ?_
               repeat' split
               all_goals omega)
            | (refine congrArg nI ?_
               repeat' split
               all_goals omega)
            | exact absurd c60 (nI_pos (by omega))
      · have c32 : ¬ v 1 p = 2 := fun h => c_32 (by rw [h])
        refine g_iload_n (pc := 35) dX8_crumplesOf_35 rfl ?_
        refine g_iconst (pc := 36) (v := (nI 4)) dX8_crumplesOf_36 (by decide) ?_
        refine g_icmp_ne (pc := 37) (tgt := 46) dX8_crumplesOf_37 (by decide) (fun c_37 => ?_) (fun c_37 => ?_)
        · have c37 : ¬ v 1 p = 4 := fun h => c_37 (by rw [h])
          refine g_iload_n (pc := 46) dX8_crumplesOf_46 rfl ?_
          refine g_iconst (pc := 47) (v := (nI 5)) dX8_crumplesOf_47 (by decide) ?_
          refine g_icmp_ne (pc := 48) (tgt := 55) dX8_crumplesOf_48 (by decide) (fun c_48 => ?_) (fun c_48 => ?_)
          · have c48 : ¬ v 1 p = 5 := fun h => c_48 (by rw [h])
            refine g_iload_n (pc := 55) dX8_crumplesOf_55 rfl ?_
            refine a_ist4 (pc := 56) dX8_crumplesOf_56 (by decide) rfl ?_
            refine g_iload (pc := 58) dX8_crumplesOf_58 rfl ?_
            refine g_if_ge (pc := 60) (tgt := 67) dX8_crumplesOf_60 (by decide) (fun c_60 => ?_) (fun c_60 => ?_)
            · have c60 := Int32.not_lt.mpr c_60
              refine g_iload (pc := 67) dX8_crumplesOf_67 rfl ?_
              refine g_ireturn (pc := 69) dX8_crumplesOf_69 rfl (by first | rfl | decide) rfl ⟨_, rfl, ?_⟩
              refine ⟨?_, fa⟩
              unfold isCr kCrumples
              rw [hVe]
              first
                | (rw [(cr_lem V (by omega)).2 c60]
                   refine congrArg nI ?_
                   repeat' split
                   all_goals omega)
                | (have c2 := (cr_lem V (by omega)).1 c60
                   refine congrArg nI ?_
                   repeat' split
                   all_goals omega)
                | (refine congrArg nI ?_
                   repeat' split
                   all_goals omega)
                | exact absurd c60 (nI_pos (by omega))
            · have c60 := Int32.not_le.mp c_60
              refine g_iconst (pc := 63) (v := (nI 0)) dX8_crumplesOf_63 (by decide) ?_
              refine g_goto (pc := 64) (tgt := 69) dX8_crumplesOf_64 (by decide) ?_
              refine g_ireturn (pc := 69) dX8_crumplesOf_69 rfl (by first | rfl | decide) rfl ⟨_, rfl, ?_⟩
              refine ⟨?_, fa⟩
              unfold isCr kCrumples
              rw [hVe]
              first
                | (rw [(cr_lem V (by omega)).2 c60]
                   refine congrArg nI ?_
                   repeat' split
                   all_goals omega)
                | (have c2 := (cr_lem V (by omega)).1 c60
                   refine congrArg nI ?_
                   repeat' split
                   all_goals omega)
                | (refine congrArg nI ?_
                   repeat' split
                   all_goals omega)
                | exact absurd c60 (nI_pos (by omega))
          · have c48 : v 1 p = 5 := nI_eq' (by omega) (by omega) c_48
            refine g_iconst (pc := 51) (v := (nI 0)) dX8_crumplesOf_51 (by decide) ?_
            refine g_goto (pc := 52) (tgt := 56) dX8_crumplesOf_52 (by decide) ?_
            refine a_ist4 (pc := 56) dX8_crumplesOf_56 (by decide) rfl ?_
            refine g_iload (pc := 58) dX8_crumplesOf_58 rfl ?_
            refine g_if_ge (pc := 60) (tgt := 67) dX8_crumplesOf_60 (by decide) (fun c_60 => ?_) (fun c_60 => ?_)
            · have c60 := Int32.not_lt.mpr c_60
              refine g_iload (pc := 67) dX8_crumplesOf_67 rfl ?_
              refine g_ireturn (pc := 69) dX8_crumplesOf_69 rfl (by first | rfl | decide) rfl ⟨_, rfl, ?_⟩
              refine ⟨?_, fa⟩
              unfold isCr kCrumples
              rw [hVe]
              first
                | (rw [(cr_lem V (by omega)).2 c60]
                   refine congrArg nI ?_
                   repeat' split
                   all_goals omega)
                | (have c2 := (cr_lem V (by omega)).1 c60
                   refine congrArg nI ?_
                   repeat' split
                   all_goals omega)
                | (refine congrArg nI ?_
                   repeat' split
                   all_goals omega)
                | exact absurd c60 (nI_pos (by omega))
            · have c60 := Int32.not_le.mp c_60
              refine g_iconst (pc := 63) (v := (nI 0)) dX8_crumplesOf_63 (by decide) ?_
              refine g_goto (pc := 64) (tgt := 69) dX8_crumplesOf_64 (by decide) ?_
              refine g_ireturn (pc := 69) dX8_crumplesOf_69 rfl (by first | rfl | decide) rfl ⟨_, rfl, ?_⟩
              refine ⟨?_, fa⟩
              unfold isCr kCrumples
              rw [hVe]
              first
                | (rw [(cr_lem V (by omega)).2 c60]
                   refine congrArg nI ?_
                   repeat' split
                   all_goals omega)
                | (have c2 := (cr_lem V (by omega)).1 c60
                   refine congrArg nI ?_
                   repeat' split
                   all_goals omega)
                | (refine congrArg nI ?_
                   repeat' split
                   all_goals omega)
                | exact absurd c60 (nI_pos (by omega))
        · have c37 : v 1 p = 4 := nI_eq' (by omega) (by omega) c_37
          refine g_iconst (pc := 40) (v := (nI 2)) dX8_crumplesOf_40 (by decide) ?_
          refine g_iload_n (pc := 41) dX8_crumplesOf_41 rfl ?_
          refine v_imul (pc := 42) dX8_crumplesOf_42 (pk_mul 2 _) ?_
          refine g_goto (pc := 43) (tgt := 56) dX8_crumplesOf_43 (by decide) ?_
          refine a_ist4 (pc := 56) dX8_crumplesOf_56 (by decide) rfl ?_
          refine g_iload (pc := 58) dX8_crumplesOf_58 rfl ?_
          refine g_if_ge (pc := 60) (tgt := 67) dX8_crumplesOf_60 (by decide) (fun c_60 => ?_) (fun c_60 => ?_)
          · have c60 := Int32.not_lt.mpr c_60
            refine g_iload (pc := 67) dX8_crumplesOf_67 rfl ?_
            refine g_ireturn (pc := 69) dX8_crumplesOf_69 rfl (by first | rfl | decide) rfl ⟨_, rfl, ?_⟩
            refine ⟨?_, fa⟩
            unfold isCr kCrumples
            rw [hVe]
            first
              | (rw [(cr_lem V (by omega)).2 c60]
                 refine congrArg nI ?_
                 repeat' split
                 all_goals omega)
              | (have c2 := (cr_lem V (by omega)).1 c60
                 refine congrArg nI ?_
                 repeat' split
                 all_goals omega)
              | (refine congrArg nI ?_
                 repeat' split
                 all_goals omega)
              | exact absurd c60 (nI_pos (by omega))
          · have c60 := Int32.not_le.mp c_60
            refine g_iconst (pc := 63) (v := (nI 0)) dX8_crumplesOf_63 (by decide) ?_
            refine g_goto (pc := 64) (tgt := 69) dX8_crumplesOf_64 (by decide) ?_
            refine g_ireturn (pc := 69) dX8_crumplesOf_69 rfl (by first | rfl | decide) rfl ⟨_, rfl, ?_⟩
            refine ⟨?_, fa⟩
            unfold isCr kCrumples
            rw [hVe]
            first
              | (rw [(cr_lem V (by omega)).2 c60]
                 refine congrArg nI ?_
                 repeat' split
                 all_goals omega)
              | (have c2 := (cr_lem V (by omega)).1 c60
                 refine congrArg nI ?_
                 repeat' split
                 all_goals omega)
              | (refine congrArg nI ?_
                 repeat' split
                 all_goals omega)
              | exact absurd c60 (nI_pos (by omega))
    · have c21 : v 1 p = 3 := nI_eq' (by omega) (by omega) c_21
      refine g_iload_n (pc := 24) dX8_crumplesOf_24 rfl ?_
      refine g_iconst (pc := 25) (v := (nI 2)) dX8_crumplesOf_25 (by decide) ?_
      refine v_isub (pc := 26) dX8_crumplesOf_26 rfl ?_
      refine g_goto (pc := 27) (tgt := 56) dX8_crumplesOf_27 (by decide) ?_
      refine a_ist4 (pc := 56) dX8_crumplesOf_56 (by decide) rfl ?_
      refine g_iload (pc := 58) dX8_crumplesOf_58 rfl ?_
      refine g_if_ge (pc := 60) (tgt := 67) dX8_crumplesOf_60 (by decide) (fun c_60 => ?_) (fun c_60 => ?_)
      · have c60 := Int32.not_lt.mpr c_60
        refine g_iload (pc := 67) dX8_crumplesOf_67 rfl ?_
        refine g_ireturn (pc := 69) dX8_crumplesOf_69 rfl (by first | rfl | decide) rfl ⟨_, rfl, ?_⟩
        refine ⟨?_, fa⟩
        unfold isCr kCrumples
        rw [hVe]
        first
          | (rw [(cr_lem V (by omega)).2 c60]
             refine congrArg nI ?_
             repeat' split
             all_goals omega)
          | (have c2 := (cr_lem V (by omega)).1 c60
             refine congrArg nI ?_
             repeat' split
             all_goals omega)
          | (refine congrArg nI ?_
             repeat' split
             all_goals omega)
          | exact absurd c60 (nI_pos (by omega))
      · have c60 := Int32.not_le.mp c_60
        refine g_iconst (pc := 63) (v := (nI 0)) dX8_crumplesOf_63 (by decide) ?_
        refine g_goto (pc := 64) (tgt := 69) dX8_crumplesOf_64 (by decide) ?_
        refine g_ireturn (pc := 69) dX8_crumplesOf_69 rfl (by first | rfl | decide) rfl ⟨_, rfl, ?_⟩
        refine ⟨?_, fa⟩
        unfold isCr kCrumples
        rw [hVe]
        first
          | (rw [(cr_lem V (by omega)).2 c60]
             refine congrArg nI ?_
             repeat' split
             all_goals omega)
          | (have c2 := (cr_lem V (by omega)).1 c60
             refine congrArg nI ?_
             repeat' split
             all_goals omega)
          | (refine congrArg nI ?_
             repeat' split
             all_goals omega)
          | exact absurd c60 (nI_pos (by omega))
