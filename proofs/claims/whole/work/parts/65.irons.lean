/-! ===== the model: ironing by an order ===== -/
/-- what ironing leaves as it is -/
def IFm (μ μ1 : Mem) : Prop := (∀ k, k ≠ 57 → k ≠ 63 → k ≠ 64 → μ1 k = μ k) ∧ ∀ j, j < 12 ∨ 30 < j → μ1 57 j = μ 57 j
theorem IFm.refl (μ : Mem) : IFm μ μ := ⟨fun _ _ _ _ => rfl, fun _ _ => rfl⟩
theorem IFm.trans {μ μ1 μ2 : Mem} (h : IFm μ μ1) (g : IFm μ1 μ2) : IFm μ μ2 := ⟨fun k h1 h2 h3 => (g.1 k h1 h2 h3).trans (h.1 k h1 h2 h3), fun j hj => (g.2 j hj).trans (h.2 j hj)⟩
theorem AFm.ifm {μ μ1 : Mem} (h : AFm μ μ1) : IFm μ μ1 := ⟨fun k h1 _ _ => h.1 k h1, fun j hj => h.2 j (by omega)⟩
theorem MW.ifm {μ μ1 : Mem} {v : View} {tc : Nat} {sz : Nat → Nat} {tb : Nat → Nat → Nat} (h : MW μ v tc sz tb) (g : IFm μ μ1) : MW μ1 v tc sz tb := h.moved (fun j hj => g.2 j (Or.inl hj)) (fun k h1 h2 => g.1 k (by omega) (by omega) (by omega))
theorem MIr.congr {μ : Mem} {v : View} {f g : Nat → Nat} {m dry : Nat} (h : MIr μ v f m dry) (hg : ∀ p, p < v 0 3 → g p = f p) : MIr μ v g m dry := ⟨fun p hp => by rw [hg p hp]; exact h.1 p hp, h.2⟩
theorem c_X8_showsOf (v : View) (μ : Mem) (hV : MVw μ v) (p : Nat) (hp : p < v 0 3) : CA eI yX8_showsOf cX8_showsOf 2 (some .int) 0 [.ref 57, .int (nI p)] μ (fun r μ1 => r = nI (kShows (v 1 p)) ∧ μ1 = μ) := by
  have h7 := hV.2.2.2.1.2
  obtain ⟨p1, p1b⟩ := (hV.2.2.2.2 p hp).1
  refine CT.of false (by decide) (by decide) (L := [some (.ref 57), some (.int (nI p))]) rfl (Nat.le_of_ble_eq_true rfl) ?_
  refine g_aload_n (pc := 0) dX8_showsOf_0 rfl ?_
  refine a_getr (pc := 1) (q := 61) fl_X8_29 dX8_showsOf_1 (by first | rfl | assumption) rfl rfl ?_
  refine g_iload_n (pc := 4) dX8_showsOf_4 rfl ?_
  refine v_iald (pc := 5) dX8_showsOf_5 (by first | rfl | assumption) rfl (by omega) p1 ?_
  refine g_iconst (pc := 6) (v := (nI 1)) dX8_showsOf_6 (by decide) ?_
  refine g_icmp_ne (pc := 7) (tgt := 14) dX8_showsOf_7 (by decide) (fun c_7 => ?_) (fun c_7 => ?_)
  · have c7 : ¬ v 1 p = 1 := fun h => c_7 (by rw [h])
    refine g_aload_n (pc := 14) dX8_showsOf_14 rfl ?_
    refine a_getr (pc := 15) (q := 61) fl_X8_29 dX8_showsOf_15 (by first | rfl | assumption) rfl rfl ?_
    refine g_iload_n (pc := 18) dX8_showsOf_18 rfl ?_
    refine v_iald (pc := 19) dX8_showsOf_19 (by first | rfl | assumption) rfl (by omega) p1 ?_
    refine g_iconst (pc := 20) (v := (nI 3)) dX8_showsOf_20 (by decide) ?_
    refine g_icmp_eq (pc := 21) (tgt := 34) dX8_showsOf_21 (by decide) (fun c_21 => ?_) (fun c_21 => ?_)
    · have c21 : v 1 p = 3 := nI_eq' (by omega) (by omega) c_21
      refine g_iconst (pc := 34) (v := (nI 2)) dX8_showsOf_34 (by decide) ?_
      refine g_goto (pc := 35) (tgt := 39) dX8_showsOf_35 (by decide) ?_
      refine g_ireturn (pc := 39) dX8_showsOf_39 rfl (by first | rfl | decide) rfl ⟨_, rfl, ?_⟩
      refine ⟨congrArg nI ?_, rfl⟩
      unfold kShows
      repeat' split
      all_goals omega
    · have c21 : ¬ v 1 p = 3 := fun h => c_21 (by rw [h])
      refine g_aload_n (pc := 24) dX8_showsOf_24 rfl ?_
      refine a_getr (pc := 25) (q := 61) fl_X8_29 dX8_showsOf_25 (by first | rfl | assumption) rfl rfl ?_
      refine g_iload_n (pc := 28) dX8_showsOf_28 rfl ?_
      refine v_iald (pc := 29) dX8_showsOf_29 (by first | rfl | assumption) rfl (by omega) p1 ?_
      refine g_iconst (pc := 30) (v := (nI 4)) dX8_showsOf_30 (by decide) ?_
      refine g_icmp_ne (pc := 31) (tgt := 38) dX8_showsOf_31 (by decide) (fun c_31 => ?_) (fun c_31 => ?_)
      · have c31 : ¬ v 1 p = 4 := fun h => c_31 (by rw [h])
        refine g_iconst (pc := 38) (v := (nI 1)) dX8_showsOf_38 (by decide) ?_
        refine g_ireturn (pc := 39) dX8_showsOf_39 rfl (by first | rfl | decide) rfl ⟨_, rfl, ?_⟩
        refine ⟨congrArg nI ?_, rfl⟩
        unfold kShows
        repeat' split
        all_goals omega
      · have c31 : v 1 p = 4 := nI_eq' (by omega) (by omega) c_31
        refine g_iconst (pc := 34) (v := (nI 2)) dX8_showsOf_34 (by decide) ?_
        refine g_goto (pc := 35) (tgt := 39) dX8_showsOf_35 (by decide) ?_
        refine g_ireturn (pc := 39) dX8_showsOf_39 rfl (by first | rfl | decide) rfl ⟨_, rfl, ?_⟩
        refine ⟨congrArg nI ?_, rfl⟩
        unfold kShows
        repeat' split
        all_goals omega
  · have c7 : v 1 p = 1 := nI_eq' (by omega) (by omega) c_7
    refine g_iconst (pc := 10) (v := (nI 3)) dX8_showsOf_10 (by decide) ?_
    refine g_goto (pc := 11) (tgt := 39) dX8_showsOf_11 (by decide) ?_
    refine g_ireturn (pc := 39) dX8_showsOf_39 rfl (by first | rfl | decide) rfl ⟨_, rfl, ?_⟩
    refine ⟨congrArg nI ?_, rfl⟩
    unfold kShows
    repeat' split
    all_goals omega
theorem c_X8_creased (v : View) (f : Nat → Nat) (μ : Mem) (hV : MVw μ v) (hf : ∀ p, p < v 0 3 → μ 63 p = nI (f p) ∧ f p ≤ 99) : CA eI yX8_creased cX8_creased 3 (some .int) 1 [.ref 57] μ (fun r μ1 => r = nI (csum v f (v 0 3)) ∧ μ1 = μ) := by
  have h7 := hV.2.2.2.1.2
  refine CT.of false (by decide) (by decide) (L := [some (.ref 57), none, none]) rfl (Nat.le_of_ble_eq_true rfl) ?_
  refine g_iconst (pc := 0) (v := (nI 0)) dX8_creased_0 (by decide) ?_
  refine a_ist1 (pc := 1) dX8_creased_1 (by decide) rfl ?_
  refine g_iconst (pc := 2) (v := (nI 0)) dX8_creased_2 (by decide) ?_
  refine a_ist2 (pc := 3) dX8_creased_3 (by decide) rfl ?_
  have lp4 : ∀ (zz : Nat) (i : Nat) (hi : i ≤ v 0 3), v 0 3 - i = zz → WG eI yX8_creased.cls cX8_creased 3 (some .int) false (fun _ _ => True) 1 (mpost (fun r μ1 => r = nI (csum v f (v 0 3)) ∧ μ1 = μ)) 0 0 4 [some (.ref 57), some (.int (nI (csum v f i))), some (.int (nI i))] [] (mk μ) := by
    intro zz
    induction zz using Nat.strongRecOn with
    | ind zz ih =>
      intro i hi hzz
      have hle := csum_le (v := v) (f := f) i (fun p hp => (hf p (by omega)).2)
      refine g_iload_n (pc := 4) dX8_creased_4 rfl ?_
      refine g_aload_n (pc := 5) dX8_creased_5 rfl ?_
      refine v_geti (pc := 6) fl_X8_73 dX8_creased_6 (by first | rfl | assumption) rfl hV.2.2.2.1.1 ?_
      refine g_icmp_ge (pc := 9) (tgt := 33) dX8_creased_9 (by decide) (fun c_9 => ?_) (fun c_9 => ?_)
      · have c9 := nI_le' (by omega) (by omega) c_9
        obtain rfl : i = v 0 3 := by omega
        refine g_iload_n (pc := 33) dX8_creased_33 rfl ?_
        refine g_ireturn (pc := 34) dX8_creased_34 rfl (by first | rfl | decide) rfl ⟨_, rfl, ?_⟩
        exact ⟨rfl, rfl⟩
      · have c9 := nI_gt' (by omega) (by omega) c_9
        refine g_iload_n (pc := 12) dX8_creased_12 rfl ?_
        refine g_aload_n (pc := 13) dX8_creased_13 rfl ?_
        refine a_getr (pc := 14) (q := 63) fl_X8_35 dX8_creased_14 (by first | rfl | assumption) rfl rfl ?_
        refine g_iload_n (pc := 17) dX8_creased_17 rfl ?_
        refine v_iald (pc := 18) dX8_creased_18 (by first | rfl | assumption) rfl (by omega) (hf i c9).1 ?_
        refine g_aload_n (pc := 19) dX8_creased_19 rfl ?_
        refine g_iload_n (pc := 20) dX8_creased_20 rfl ?_
        refine a_cv1i (pc := 21) (c_X8_showsOf v μ hV i c9) m_X8_showsOf ml_X8_105 (by omega) (by first | rfl | assumption) rfl rfl (Nat.le_of_ble_eq_true rfl) dX8_creased_21 (fun x_21 μ_21 h_21 => ?_)
        obtain ⟨rfl, hm_21⟩ := h_21
        have hm_21 := hm_21.symm
        subst hm_21
        refine v_imul (pc := 24) dX8_creased_24 (pk_mul _ _) ?_
        refine v_iadd (pc := 25) dX8_creased_25 (nI_add _ _) ?_
        refine a_ist1 (pc := 26) dX8_creased_26 (by decide) rfl ?_
        refine a_iinc2 (pc := 27) dX8_creased_27 (inc1 i) (by decide) rfl ?_
        refine g_goto (pc := 30) (tgt := 4) dX8_creased_30 (by decide) ?_
        exact ih (v 0 3 - (i + 1)) (by omega) (i + 1) (by omega) rfl
  exact lp4 _ 0 (Nat.zero_le _) rfl
theorem c_X8_begins (v : View) (μ : Mem) (hV : MVw μ v) : CA eV yX8_begins cX8_begins 2 none 0 [.ref 57] μ (fun _ μ1 => MIr μ1 v (v 3) 0 0 ∧ (∀ q, q < v 0 3 → μ1 64 q = -1) ∧ IFm μ μ1) := by
  have h7 := hV.2.2.2.1.2
  refine CT.of false (by decide) (by decide) (L := [some (.ref 57), none]) rfl (Nat.le_of_ble_eq_true rfl) ?_
  refine g_aload_n (pc := 0) dX8_begins_0 rfl ?_
  refine g_iconst (pc := 1) (v := (nI 0)) dX8_begins_1 (by decide) ?_
  refine a_puti (pc := 2) fw_X8_239 dX8_begins_2 (by first | rfl | assumption) rfl ?_
  refine g_aload_n (pc := 5) dX8_begins_5 rfl ?_
  refine g_iconst (pc := 6) (v := (nI 0)) dX8_begins_6 (by decide) ?_
  refine a_puti (pc := 7) fw_X8_242 dX8_begins_7 (by first | rfl | assumption) rfl ?_
  refine g_iconst (pc := 10) (v := (nI 0)) dX8_begins_10 (by decide) ?_
  refine a_ist1 (pc := 11) dX8_begins_11 (by decide) rfl ?_
  have lp12 : ∀ (zz : Nat) (i : Nat) (hi : i ≤ v 0 3) (ν : Mem) (hν : (∀ q, q < i → ν 63 q = nI (v 3 q) ∧ ν 64 q = -1) ∧ ν 57 29 = nI 0 ∧ ν 57 30 = nI 0 ∧ IFm μ ν), v 0 3 - i = zz → WG eV yX8_begins.cls cX8_begins 2 none false (fun _ _ => True) 0 (mpost (fun _ μ1 => MIr μ1 v (v 3) 0 0 ∧ (∀ q, q < v 0 3 → μ1 64 q = -1) ∧ IFm μ μ1)) 0 0 12 [some (.ref 57), some (.int (nI i))] [] (mk ν) := by
    intro zz
    induction zz using Nat.strongRecOn with
    | ind zz ih =>
      intro i hi ν hν hzz
      obtain ⟨a1, a2, a3, a4⟩ := hν
      refine g_iload_n (pc := 12) dX8_begins_12 rfl ?_
      refine g_aload_n (pc := 13) dX8_begins_13 rfl ?_
      refine v_geti (pc := 14) fl_X8_73 dX8_begins_14 (by first | rfl | assumption) rfl ((a4.2 11 (by omega)).trans hV.2.2.2.1.1) ?_
      refine g_icmp_ge (pc := 17) (tgt := 49) dX8_begins_17 (by decide) (fun c_17 => ?_) (fun c_17 => ?_)
      · have c17 := nI_le' (by omega) (by omega) c_17
        obtain rfl : i = v 0 3 := by omega
        refine g_return (pc := 49) (x := ()) dX8_begins_49 rfl rfl ⟨_, rfl, ?_⟩
        exact ⟨⟨fun p hp => ⟨(a1 p hp).1, (hV.2.2.2.2 p hp).2.2.1.2⟩, a2, a3, Nat.le_refl _, Nat.zero_le _⟩, fun p hp => (a1 p hp).2, a4⟩
      · have c17 := nI_gt' (by omega) (by omega) c_17
        refine g_aload_n (pc := 20) dX8_begins_20 rfl ?_
        refine a_getr (pc := 21) (q := 63) fl_X8_35 dX8_begins_21 (by first | rfl | assumption) rfl rfl ?_
        refine g_iload_n (pc := 24) dX8_begins_24 rfl ?_
        refine g_aload_n (pc := 25) dX8_begins_25 rfl ?_
        refine a_getr (pc := 26) (q := 62) fl_X8_32 dX8_begins_26 (by first | rfl | assumption) rfl rfl ?_
        refine g_iconst (pc := 29) (v := (nI 3)) dX8_begins_29 (by decide) ?_
        refine g_iload_n (pc := 30) dX8_begins_30 rfl ?_
        refine v_imul (pc := 31) dX8_begins_31 (pk_mul 3 i) ?_
        refine g_iconst (pc := 32) (v := (nI 1)) dX8_begins_32 (by decide) ?_
        refine v_iadd (pc := 33) dX8_begins_33 (nI_add (3 * i) 1) ?_
        refine v_iald (pc := 34) dX8_begins_34 (by first | rfl | assumption) rfl (by omega) ((congrFun (a4.1 62 (by omega) (by omega) (by omega)) _).trans (hV.2.2.2.2 i c17).2.2.1.1) ?_
        refine a_iast (pc := 35) dX8_begins_35 (by first | rfl | assumption) rfl (by omega) ?_
        refine g_aload_n (pc := 36) dX8_begins_36 rfl ?_
        refine a_getr (pc := 37) (q := 64) fl_X8_38 dX8_begins_37 (by first | rfl | assumption) rfl rfl ?_
        refine g_iload_n (pc := 40) dX8_begins_40 rfl ?_
        refine g_iconst (pc := 41) (v := (-1)) dX8_begins_41 (by decide) ?_
        refine a_iast (pc := 42) dX8_begins_42 (by first | rfl | assumption) rfl (by omega) ?_
        refine a_iinc1 (pc := 43) dX8_begins_43 (inc1 i) (by decide) rfl ?_
        refine g_goto (pc := 46) (tgt := 12) dX8_begins_46 (by decide) ?_
        refine ih (v 0 3 - (i + 1)) (by omega) (i + 1) (by omega) _ ⟨fun q hq => ?_, by rw [mset_ne (by omega), mset_ne (by omega)]; exact a2, by rw [mset_ne (by omega), mset_ne (by omega)]; exact a3, fun k h1 h2 h3 => by rw [mset_ne h3, mset_ne h2]; exact a4.1 k h1 h2 h3, fun j hj => by rw [mset_ne (by omega), mset_ne (by omega)]; exact a4.2 j hj⟩ rfl
        rcases Nat.lt_or_ge q i with hqi | hqi
        · rw [mset_ne (by omega), mset_nj (by omega), mset_nj (by omega), mset_ne (by omega)]
          exact a1 q hqi
        · obtain rfl : q = i := by omega
          rw [mset_ne (by omega), mset_eq, mset_eq]
          exact ⟨rfl, rfl⟩
  exact lp12 _ 0 (Nat.zero_le _) _ ⟨fun q hq => absurd hq (Nat.not_lt_zero q), (mset_nj (by omega)).trans mset_eq, mset_eq, fun k h1 h2 h3 => by rw [mset_ne h1, mset_ne h1], fun j hj => by rw [mset_nj (by omega), mset_nj (by omega)]⟩ rfl
/-- in the midst of crumpling: those below i are done -/
def giF (v : View) (Q : Nat → List Nat) (dry p : Nat) (f : Nat → Nat) (m i : Nat) : Nat → Nat := fun q => if q < i then isF v Q dry p f m q else if q = p then isKp v Q dry p f m else f q
theorem giF_same {v : View} {Q : Nat → List Nat} {dry p : Nat} {f : Nat → Nat} {m i : Nat} (h : isF v Q dry p f m i = if i = p then isKp v Q dry p f m else f i) : giF v Q dry p f m (i + 1) = giF v Q dry p f m i := by
  funext q
  unfold giF
  by_cases hq : q < i
  · rw [if_pos (by omega), if_pos hq]
  · rw [if_neg hq]
    by_cases hqi : q = i
    · subst hqi
      rw [if_pos (by omega)]
      exact h
    · rw [if_neg (by omega)]
theorem isF_p {v : View} {Q : Nat → List Nat} {dry p : Nat} {f : Nat → Nat} {m : Nat} : isF v Q dry p f m p = isKp v Q dry p f m := if_pos rfl
theorem isF_n {v : View} {Q : Nat → List Nat} {dry p : Nat} {f : Nat → Nat} {m q : Nat} (h : ¬ q = p) (hb : ¬ bitAt (v 4 p) q = 1) : isF v Q dry p f m q = f q := (if_neg h).trans (if_neg hb)
theorem isF_c {v : View} {Q : Nat → List Nat} {dry p : Nat} {f : Nat → Nat} {m q : Nat} (h : ¬ q = p) (hb : bitAt (v 4 p) q = 1) : isF v Q dry p f m q = min 99 (f q + isCr v Q dry f (isM v Q dry p f m) q) := (if_neg h).trans (if_pos hb)
theorem isCr_congr {v : View} {Q : Nat → List Nat} {dry : Nat} {f g : Nat → Nat} {m q : Nat} (h : g q = f q) : isCr v Q dry g m q = isCr v Q dry f m q := by
  unfold isCr
  rw [h]
theorem c_X8_irons (v : View) (tc : Nat) (sz : Nat → Nat) (tb : Nat → Nat → Nat) (f : Nat → Nat) (m dry : Nat) (μ : Mem) (hW : MW μ v tc sz tb) (hI : MIr μ v f m dry) (hm : m ≤ 1500) (p : Nat) (hp : p < v 0 3) : CA eV yX8_irons cX8_irons 5 none 44 [.ref 57, .int (nI p)] μ (fun _ μ1 => MIr μ1 v (isF v (QM sz tb (v 0 2)) dry p f m) (isM v (QM sz tb (v 0 2)) dry p f m) dry ∧ (∀ q, q < v 0 3 → μ1 64 q = if q = p then nI (isM v (QM sz tb (v 0 2)) dry p f m) else μ 64 q) ∧ IFm μ μ1) := by
  have h7 := hW.1.2.2.2.1.2
  have hvb := hW.1.vb
  have hdm := hI.2.2.2.1
  have hm2 := hI.2.2.2.2
  have hTk : (isTk v (QM sz tb (v 0 2)) dry p f m) ≤ 207 := kTakes_le (TV_le _ _ _ _ _ _ _ _) (hvb.2 p hp).2.1
  have hKp : (isKp v (QM sz tb (v 0 2)) dry p f m) ≤ 99 := kKeeps_le (TV_le _ _ _ _ _ _ _ _) (hI.1 p hp).2
  have hMe : (isM v (QM sz tb (v 0 2)) dry p f m) = m + (isTk v (QM sz tb (v 0 2)) dry p f m) := rfl
  refine CT.of false (by decide) (by decide) (L := [some (.ref 57), some (.int (nI p)), none, none, none]) rfl (Nat.le_of_ble_eq_true rfl) ?_
  refine g_aload_n (pc := 0) dX8_irons_0 rfl ?_
  refine g_iload_n (pc := 1) dX8_irons_1 rfl ?_
  refine a_cv1i (pc := 2) (c_X8_takesOf v tc sz tb f m dry μ hW hI p hp) m_X8_takesOf ml_X8_114 (by omega) (by first | rfl | assumption) rfl rfl (Nat.le_of_ble_eq_true rfl) dX8_irons_2 (fun x_2 μ_2 h_2 => ?_)
  obtain ⟨rfl, fa⟩ := h_2
  have hW2 := hW.af fa
  have hI2 := hI.af fa
  refine a_ist2 (pc := 5) dX8_irons_5 (by decide) rfl ?_
  refine g_aload_n (pc := 6) dX8_irons_6 rfl ?_
  refine g_iload_n (pc := 7) dX8_irons_7 rfl ?_
  refine a_cv1i (pc := 8) (c_X8_keepsOf v tc sz tb f m dry μ_2 hW2 hI2 p hp) m_X8_keepsOf ml_X8_111 (by omega) (by first | rfl | assumption) rfl rfl (Nat.le_of_ble_eq_true rfl) dX8_irons_8 (fun x_8 μ_8 h_8 => ?_)
  obtain ⟨rfl, fb⟩ := h_8
  have hW3 := hW2.af fb
  have hI3 := hI2.af fb
  have fz := (fa.trans fb).ifm
  refine a_ist3 (pc := 11) dX8_irons_11 (by decide) rfl ?_
  refine g_aload_n (pc := 12) dX8_irons_12 rfl ?_
  refine g_dup (pc := 13) dX8_irons_13 rfl ?_
  refine v_geti (pc := 14) fl_X8_239 dX8_irons_14 (by first | rfl | assumption) rfl hI3.2.1 ?_
  refine g_iload_n (pc := 17) dX8_irons_17 rfl ?_
  refine v_iadd (pc := 18) dX8_irons_18 (nI_add m _) ?_
  refine a_puti (pc := 19) fw_X8_239 dX8_irons_19 (by first | rfl | assumption) rfl ?_
  refine g_aload_n (pc := 22) dX8_irons_22 rfl ?_
  refine a_getr (pc := 23) (q := 63) fl_X8_35 dX8_irons_23 (by first | rfl | assumption) rfl rfl ?_
  refine g_iload_n (pc := 26) dX8_irons_26 rfl ?_
  refine g_iload_n (pc := 27) dX8_irons_27 rfl ?_
  refine a_iast (pc := 28) dX8_irons_28 (by first | rfl | assumption) rfl (by omega) ?_
  refine g_aload_n (pc := 29) dX8_irons_29 rfl ?_
  refine a_getr (pc := 30) (q := 64) fl_X8_38 dX8_irons_30 (by first | rfl | assumption) rfl rfl ?_
  refine g_iload_n (pc := 33) dX8_irons_33 rfl ?_
  refine g_aload_n (pc := 34) dX8_irons_34 rfl ?_
  refine v_geti (pc := 35) fl_X8_239 dX8_irons_35 (by first | rfl | assumption) rfl ((congrFun (mset_ne (by omega)) 29).trans mset_eq) ?_
  refine a_iast (pc := 38) dX8_irons_38 (by first | rfl | assumption) rfl (by omega) ?_
  refine g_iconst (pc := 39) (v := (nI 0)) dX8_irons_39 (by decide) ?_
  refine a_ist4 (pc := 40) dX8_irons_40 (by decide) rfl ?_
  have lp42 : ∀ (zz : Nat) (i : Nat) (hi : i ≤ v 0 3) (ν : Mem) (hν : MIr ν v (giF v (QM sz tb (v 0 2)) dry p f m i) (isM v (QM sz tb (v 0 2)) dry p f m) dry ∧ (∀ q, q < v 0 3 → ν 64 q = if q = p then nI (isM v (QM sz tb (v 0 2)) dry p f m) else μ 64 q) ∧ IFm μ ν), v 0 3 - i = zz → WG eV yX8_irons.cls cX8_irons 5 none false (fun _ _ => True) 44 (mpost (fun _ μ1 => MIr μ1 v (isF v (QM sz tb (v 0 2)) dry p f m) (isM v (QM sz tb (v 0 2)) dry p f m) dry ∧ (∀ q, q < v 0 3 → μ1 64 q = if q = p then nI (isM v (QM sz tb (v 0 2)) dry p f m) else μ 64 q) ∧ IFm μ μ1)) 0 0 42 [some (.ref 57), some (.int (nI p)), some (.int (nI (isTk v (QM sz tb (v 0 2)) dry p f m))), some (.int (nI (isKp v (QM sz tb (v 0 2)) dry p f m))), some (.int (nI i))] [] (mk ν) := by
    intro zz
    induction zz using Nat.strongRecOn with
    | ind zz ih =>
      intro i hi ν hν hzz
      obtain ⟨j1, j2, j3⟩ := hν
      have hWν := hW.ifm j3
      obtain ⟨n1, n2, n3, n4, n5⟩ := hWν.1
      refine g_iload (pc := 42) dX8_irons_42 rfl ?_
      refine g_aload_n (pc := 44) dX8_irons_44 rfl ?_
      refine v_geti (pc := 45) fl_X8_73 dX8_irons_45 (by first | rfl | assumption) rfl n4.1 ?_
      refine g_icmp_ge (pc := 48) (tgt := 109) dX8_irons_48 (by decide) (fun c_48 => ?_) (fun c_48 => ?_)
      · have c48 := nI_le' (by omega) (by omega) c_48
        obtain rfl : i = v 0 3 := by omega
        refine g_return (pc := 109) (x := ()) dX8_irons_109 rfl rfl ⟨_, rfl, ?_⟩
        refine ⟨j1.congr (fun q hq => ?_), j2, j3⟩
        unfold giF
        rw [if_pos hq]
      · have c48 := nI_gt' (by omega) (by omega) c_48
        refine g_iload (pc := 51) dX8_irons_51 rfl ?_
        refine g_iload_n (pc := 53) dX8_irons_53 rfl ?_
        refine g_icmp_eq (pc := 54) (tgt := 103) dX8_irons_54 (by decide) (fun c_54 => ?_) (fun c_54 => ?_)
        · have c54 : i = p := nI_eq' (by omega) (by omega) c_54
          have j9 : MIr ν v (giF v (QM sz tb (v 0 2)) dry p f m (i + 1)) (isM v (QM sz tb (v 0 2)) dry p f m) dry := by
            rw [giF_same (by rw [c54, isF_p, if_pos rfl])]
            exact j1
          have j8 := j2
          have j7 := j3
          refine a_iinc4 (pc := 103) dX8_irons_103 (inc1 i) (by decide) rfl ?_
          refine g_goto (pc := 106) (tgt := 42) dX8_irons_106 (by decide) ?_
          exact ih (v 0 3 - (i + 1)) (by omega) (i + 1) (by omega) _ ⟨j9, j8, j7⟩ rfl
        · have c54 : ¬ i = p := fun h => c_54 (by rw [h])
          refine g_aload_n (pc := 57) dX8_irons_57 rfl ?_
          refine a_getr (pc := 58) (q := 62) fl_X8_32 dX8_irons_58 (by first | rfl | assumption) rfl rfl ?_
          refine g_iconst (pc := 61) (v := (nI 3)) dX8_irons_61 (by decide) ?_
          refine g_iload_n (pc := 62) dX8_irons_62 rfl ?_
          refine v_imul (pc := 63) dX8_irons_63 (pk_mul 3 p) ?_
          refine g_iconst (pc := 64) (v := (nI 2)) dX8_irons_64 (by decide) ?_
          refine v_iadd (pc := 65) dX8_irons_65 (nI_add (3 * p) 2) ?_
          refine v_iald (pc := 66) dX8_irons_66 (by first | rfl | assumption) rfl (by omega) (n5 p hp).2.2.2.1 ?_
          refine g_iload (pc := 67) dX8_irons_67 rfl ?_
          refine v_ishr (pc := 69) dX8_irons_69 rfl ?_
          refine g_iconst (pc := 70) (v := (nI 1)) dX8_irons_70 (by decide) ?_
          refine v_iand (pc := 71) dX8_irons_71 (bit_lem _ (by have := (n5 p hp).2.2.2.2; omega) i (by omega)) ?_
          refine g_iconst (pc := 72) (v := (nI 1)) dX8_irons_72 (by decide) ?_
          refine g_icmp_ne (pc := 73) (tgt := 103) dX8_irons_73 (by decide) (fun c_73 => ?_) (fun c_73 => ?_)
          · have c73 : ¬ bitAt (v 4 p) i = 1 := fun h => c_73 (by rw [h])
            have j9 : MIr ν v (giF v (QM sz tb (v 0 2)) dry p f m (i + 1)) (isM v (QM sz tb (v 0 2)) dry p f m) dry := by
              rw [giF_same (by rw [if_neg c54, isF_n c54 c73])]
              exact j1
            have j8 := j2
            have j7 := j3
            refine a_iinc4 (pc := 103) dX8_irons_103 (inc1 i) (by decide) rfl ?_
            refine g_goto (pc := 106) (tgt := 42) dX8_irons_106 (by decide) ?_
            exact ih (v 0 3 - (i + 1)) (by omega) (i + 1) (by omega) _ ⟨j9, j8, j7⟩ rfl
          · have c73 : bitAt (v 4 p) i = 1 := nI_eq' (by have := bit_le (v 4 p) i; omega) (by omega) c_73
            have hgi : (giF v (QM sz tb (v 0 2)) dry p f m i) i = f i := by
              unfold giF
              rw [if_neg (by omega), if_neg c54]
            obtain ⟨e88, b88⟩ := j1.1 i c48
            rw [hgi] at e88 b88
            refine g_aload_n (pc := 76) dX8_irons_76 rfl ?_
            refine a_getr (pc := 77) (q := 63) fl_X8_35 dX8_irons_77 (by first | rfl | assumption) rfl rfl ?_
            refine g_iload (pc := 80) dX8_irons_80 rfl ?_
            refine g_aload_n (pc := 82) dX8_irons_82 rfl ?_
            refine a_getr (pc := 83) (q := 63) fl_X8_35 dX8_irons_83 (by first | rfl | assumption) rfl rfl ?_
            refine g_iload (pc := 86) dX8_irons_86 rfl ?_
            refine v_iald (pc := 88) dX8_irons_88 (by first | rfl | assumption) rfl (by omega) e88 ?_
            refine g_aload_n (pc := 89) dX8_irons_89 rfl ?_
            refine g_iload (pc := 90) dX8_irons_90 rfl ?_
            refine a_cv1i (pc := 92) (c_X8_crumplesOf v tc sz tb (giF v (QM sz tb (v 0 2)) dry p f m i) (isM v (QM sz tb (v 0 2)) dry p f m) dry ν hWν j1 i c48) m_X8_crumplesOf ml_X8_117 (by omega) (by first | rfl | assumption) rfl rfl (Nat.le_of_ble_eq_true rfl) dX8_irons_92 (fun x_92 μ_92 h_92 => ?_)
            obtain ⟨rfl, fc⟩ := h_92
            rw [isCr_congr hgi]
            have hCr : isCr v (QM sz tb (v 0 2)) dry f (isM v (QM sz tb (v 0 2)) dry p f m) i ≤ 198 := kCrumples_le (TV_le _ _ _ _ _ _ _ _)
            refine v_iadd (pc := 95) dX8_irons_95 (nI_add _ _) ?_
            refine g_iconst (pc := 96) (v := (nI 0)) dX8_irons_96 (by decide) ?_
            refine g_bipush (pc := 97) (v := (nI 99)) dX8_irons_97 (by decide) ?_
            refine a_cs3i (pc := 99) (c_X8_within _ 0 99 _) m_X8_within ml_X8_245 (by omega) (Nat.le_of_ble_eq_true rfl) dX8_irons_99 (fun x_99 μ_99 h_99 => ?_)
            obtain ⟨rfl, hm_99⟩ := h_99
            have hm_99 := hm_99.symm
            subst hm_99
            rw [wi_nat (by omega) (by decide)]
            have hst : isF v (QM sz tb (v 0 2)) dry p f m i = min 99 (f i + isCr v (QM sz tb (v 0 2)) dry f (isM v (QM sz tb (v 0 2)) dry p f m) i) := isF_c c54 c73
            obtain ⟨x9, hx9⟩ : ∃ x9, min 99 (f i + isCr v (QM sz tb (v 0 2)) dry f (isM v (QM sz tb (v 0 2)) dry p f m) i) = x9 := ⟨_, rfl⟩
            rw [hx9] at hst ⊢
            have j9 : MIr (mset μ_92 63 i (nI x9)) v (giF v (QM sz tb (v 0 2)) dry p f m (i + 1)) (isM v (QM sz tb (v 0 2)) dry p f m) dry := by
              refine ⟨fun q hq => ?_, (congrFun (mset_ne (by omega)) 29).trans ((fc.2 29 (by omega)).trans j1.2.1), (congrFun (mset_ne (by omega)) 30).trans ((fc.2 30 (by omega)).trans j1.2.2.1), j1.2.2.2⟩
              by_cases hqi : q = i
              · subst hqi
                rw [mset_eq]
                unfold giF
                rw [if_pos (by omega), hst]
                exact ⟨rfl, by omega⟩
              · rw [mset_nj hqi, fc.1 63 (by omega)]
                obtain ⟨e1, e2⟩ := j1.1 q hq
                unfold giF at e1 e2 ⊢
                by_cases hlt : q < i
                · rw [if_pos hlt] at e1 e2
                  rw [if_pos (by omega)]
                  exact ⟨e1, e2⟩
                · rw [if_neg hlt] at e1 e2
                  rw [if_neg (by omega)]
                  exact ⟨e1, e2⟩
            have j8 : ∀ q, q < v 0 3 → mset μ_92 63 i (nI x9) 64 q = if q = p then nI (isM v (QM sz tb (v 0 2)) dry p f m) else μ 64 q := fun q hq => by
              rw [mset_ne (by omega), fc.1 64 (by omega)]
              exact j2 q hq
            have j7 : IFm μ (mset μ_92 63 i (nI x9)) := j3.trans (fc.ifm.trans ⟨fun k h1 h2 h3 => mset_ne h2, fun j hj => congrFun (mset_ne (by omega)) j⟩)
            refine a_iast (pc := 102) dX8_irons_102 (by first | rfl | assumption) rfl (by omega) ?_
            refine a_iinc4 (pc := 103) dX8_irons_103 (inc1 i) (by decide) rfl ?_
            refine g_goto (pc := 106) (tgt := 42) dX8_irons_106 (by decide) ?_
            exact ih (v 0 3 - (i + 1)) (by omega) (i + 1) (by omega) _ ⟨j9, j8, j7⟩ rfl
  refine lp42 _ 0 (Nat.zero_le _) _ ⟨⟨fun q hq => ?_, ?_, ?_, by omega, by omega⟩, fun q hq => ?_, ?_, ?_⟩ rfl
  · by_cases hqp : q = p
    · subst hqp
      rw [mset_ne (by omega), mset_eq]
      unfold giF
      rw [if_neg (Nat.not_lt_zero q), if_pos rfl]
      exact ⟨rfl, hKp⟩
    · rw [mset_ne (by omega), mset_nj hqp, mset_ne (by omega)]
      unfold giF
      rw [if_neg (Nat.not_lt_zero q), if_neg hqp]
      exact hI3.1 q hq
  · rw [mset_ne (by omega), mset_ne (by omega), mset_eq]
    rfl
  · rw [mset_ne (by omega), mset_ne (by omega), mset_nj (by omega)]
    exact hI3.2.2.1
  · by_cases hqp : q = p
    · subst hqp
      rw [mset_eq, if_pos rfl]
      rfl
    · rw [mset_nj hqp, mset_ne (by omega), mset_ne (by omega), if_neg hqp]
      exact (congrFun (fb.1 64 (by omega)) q).trans (congrFun (fa.1 64 (by omega)) q)
  · intro k h1 h2 h3
    rw [mset_ne h3, mset_ne h2, mset_ne h1]
    exact fz.1 k h1 h2 h3
  · intro j hj
    rw [mset_ne (by omega), mset_ne (by omega), mset_nj (by omega)]
    exact fz.2 j hj
theorem dn_in {T : Nat → Nat} {q x : Nat} : ∀ (l : List Nat) (k : Nat), q ∈ l → dn T q (l ++ [x]) k = dn T q l k
  | [], _, h => absurd h (by simp)
  | y :: l, k, h => by
    show (if y = q then nI (T (k + 1)) else dn T q (l ++ [x]) (k + 1)) = if y = q then nI (T (k + 1)) else dn T q l (k + 1)
    by_cases hy : y = q
    · rw [if_pos hy, if_pos hy]
    · rw [if_neg hy, if_neg hy]
      exact dn_in l (k + 1) ((List.mem_cons.mp h).resolve_left (fun e => hy e.symm))
theorem dn_no {T : Nat → Nat} {q : Nat} : ∀ (l : List Nat) (k : Nat), q ∉ l → dn T q l k = -1
  | [], _, _ => rfl
  | y :: l, k, h => by
    show (if y = q then nI (T (k + 1)) else dn T q l (k + 1)) = -1
    rw [if_neg (fun e => h (by rw [e]; exact List.mem_cons_self))]
    exact dn_no l (k + 1) (fun e => h (List.mem_cons_of_mem _ e))
theorem dn_new {T : Nat → Nat} {q x : Nat} : ∀ (l : List Nat) (k : Nat), q ∉ l → dn T q (l ++ [x]) k = if x = q then nI (T (k + l.length + 1)) else -1
  | [], _, _ => rfl
  | y :: l, k, h => by
    show (if y = q then nI (T (k + 1)) else dn T q (l ++ [x]) (k + 1)) = _
    rw [if_neg (fun e => h (by rw [e]; exact List.mem_cons_self)), dn_new l (k + 1) (fun e => h (List.mem_cons_of_mem _ e)), List.length_cons, show k + 1 + l.length + 1 = k + (l.length + 1) + 1 by omega]
theorem dn_congr {T T1 : Nat → Nat} {q : Nat} : ∀ (l : List Nat) (k : Nat), (∀ j, j ≤ k + l.length → T j = T1 j) → dn T q l k = dn T1 q l k
  | [], _, _ => rfl
  | y :: l, k, h => by
    show (if y = q then nI (T (k + 1)) else dn T q l (k + 1)) = if y = q then nI (T1 (k + 1)) else dn T1 q l (k + 1)
    rw [h (k + 1) (by rw [List.length_cons]; omega), dn_congr l (k + 1) (fun j hj => h j (by rw [List.length_cons]; omega))]
/-- the model has ironed by l (sprayed ahead of place sp) -/
def MO (μ : Mem) (v : View) (Q : Nat → List Nat) (sp : Nat) (l : List Nat) : Prop := MIr μ v (stF v Q sp l l.length) (stM v Q sp l l.length) (stS v Q sp l l.length).2.2 ∧ ∀ q, q < v 0 3 → μ 64 q = dn (stM v Q sp l) q l 0
theorem app_getD {l : List Nat} {x j : Nat} (h : j < l.length) : (l ++ [x]).getD j 0 = l.getD j 0 := by
  rw [List.getD_eq_getElem?_getD, List.getD_eq_getElem?_getD, List.getElem?_append_left h]
theorem stS_app (v : View) (Q : Nat → List Nat) (sp : Nat) (l : List Nat) (x : Nat) {k : Nat} (h : k ≤ l.length) : stS v Q sp (l ++ [x]) k = stS v Q sp l k := stS_congr k (fun j hj => app_getD (by omega))
theorem app_last (l : List Nat) (x : Nat) : (l ++ [x]).getD l.length 0 = x := by
  rw [List.getD_eq_getElem?_getD, List.getElem?_append_right (Nat.le_refl _), Nat.sub_self]
  rfl
theorem MO.snoc {μ μ1 : Mem} {v : View} {Q : Nat → List Nat} {sp : Nat} {l : List Nat} {x : Nat} (h : ∀ q, q < v 0 3 → μ 64 q = dn (stM v Q sp l) q l 0) (g : MIr μ1 v (isF v Q (stD v Q sp l l.length) x (stF v Q sp l l.length) (stM v Q sp l l.length)) (isM v Q (stD v Q sp l l.length) x (stF v Q sp l l.length) (stM v Q sp l l.length)) (stD v Q sp l l.length)) (g2 : ∀ q, q < v 0 3 → μ1 64 q = if q = x then nI (isM v Q (stD v Q sp l l.length) x (stF v Q sp l l.length) (stM v Q sp l l.length)) else μ 64 q) (hx : x ∉ l) : MO μ1 v Q sp (l ++ [x]) := by
  have e0 := stS_app v Q sp l x (Nat.le_refl l.length)
  have eF : stF v Q sp (l ++ [x]) (l.length + 1) = isF v Q (stD v Q sp l l.length) x (stF v Q sp l l.length) (stM v Q sp l l.length) := by
    rw [stF_succ, app_last]
    unfold stD stF stM
    rw [e0]
  have eM : stM v Q sp (l ++ [x]) (l.length + 1) = isM v Q (stD v Q sp l l.length) x (stF v Q sp l l.length) (stM v Q sp l l.length) := by
    rw [stM_succ, app_last]
    unfold stD stF stM
    rw [e0]
  have eD : (stS v Q sp (l ++ [x]) (l.length + 1)).2.2 = stD v Q sp l l.length := by
    rw [st3_succ]
    unfold stD
    rw [e0]
  have el : (l ++ [x]).length = l.length + 1 := by
    rw [List.length_append]
    rfl
  refine ⟨?_, fun q hq => ?_⟩
  · rw [el, eF, eM, eD]
    exact g
  · rw [g2 q hq]
    by_cases hqx : q = x
    · rw [if_pos hqx, hqx, dn_new l 0 hx, if_pos rfl, Nat.zero_add, eM]
    · rw [if_neg hqx, h q hq]
      by_cases hql : q ∈ l
      · rw [dn_in l 0 hql]
        exact dn_congr l 0 (fun j hj => by unfold stM; rw [stS_app v Q sp l x (by omega)])
      · rw [dn_new l 0 hql, dn_no l 0 hql, if_neg (fun e => hqx e.symm)]
theorem MO.nil {μ : Mem} {v : View} {Q : Nat → List Nat} {sp : Nat} (h : MIr μ v (v 3) 0 0) (g : ∀ q, q < v 0 3 → μ 64 q = -1) : MO μ v Q sp [] := ⟨h, g⟩
theorem MO.mb {μ : Mem} {v : View} {Q : Nat → List Nat} {l : List Nat} (hV : MVw μ v) (hl : LO l (v 0 3)) (hl7 : l.length < 7) {sp : Nat} : stM v Q sp l l.length ≤ 1500 := by
  have hb := st_bounds (Q := Q) (sp := sp) hV.vb hl l.length (Nat.le_refl _)
  omega
/-- one more part of an order -/
theorem MO.go {μ μ1 : Mem} {v : View} {Q : Nat → List Nat} {l : List Nat} {x : Nat} (hO : MO μ v Q 9 l) (hl7 : l.length < 7) (hxl : x ∉ l) (h : MIr μ1 v (isF v Q (stS v Q 9 l l.length).2.2 x (stF v Q 9 l l.length) (stM v Q 9 l l.length)) (isM v Q (stS v Q 9 l l.length).2.2 x (stF v Q 9 l l.length) (stM v Q 9 l l.length)) (stS v Q 9 l l.length).2.2 ∧ (∀ q, q < v 0 3 → μ1 64 q = if q = x then nI (isM v Q (stS v Q 9 l l.length).2.2 x (stF v Q 9 l l.length) (stM v Q 9 l l.length)) else μ 64 q) ∧ IFm μ μ1) : MO μ1 v Q 9 (l ++ [x]) ∧ IFm μ μ1 := by
  have hd : stD v Q 9 l l.length = (stS v Q 9 l l.length).2.2 := if_neg (by omega)
  rw [← hd] at h
  exact ⟨MO.snoc hO.2 h.1 h.2.1 hxl, h.2.2⟩
