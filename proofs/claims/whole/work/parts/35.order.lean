/-! ===== ironing: orders, and one place of an order ===== -/
def bitAt (b i : Nat) : Nat := b / 2 ^ i % 2
theorem bit_lem : ∀ b, b < 128 → ∀ i, i < 7 → (nI b >>> (nI i &&& 31)) &&& nI 1 = nI (bitAt b i) := by decide +kernel
theorem bit_le (b i : Nat) : bitAt b i ≤ 1 := by
  have := Nat.mod_lt (b / 2 ^ i) (show 0 < 2 by decide)
  unfold bitAt
  omega
theorem und_lem : ∀ b, b < 128 → ∀ p, p < 7 → ∃ u, u < 128 ∧ nI b &&& ((nI 1 <<< (nI p &&& 31)) ^^^ (-1)) = nI u ∧ ∀ q, q < 7 → bitAt u q = if q = p then 0 else bitAt b q := by
  have h : ∀ b, b < 128 → ∀ p, p < 7 → (nI b &&& ((nI 1 <<< (nI p &&& 31)) ^^^ (-1)) = nI (if bitAt b p = 1 then b - 2 ^ p else b)) ∧ (if bitAt b p = 1 then b - 2 ^ p else b) < 128 ∧ ∀ q, q < 7 → bitAt (if bitAt b p = 1 then b - 2 ^ p else b) q = if q = p then 0 else bitAt b q := by decide +kernel
  intro b hb p hp
  obtain ⟨h1, h2, h3⟩ := h b hb p hp
  exact ⟨_, h2, h1, h3⟩
/-- the order that has been chosen -/
def OR (μ : Mem) (l : List Nat) : Prop := μ 35 2 = nI l.length ∧ l.length ≤ 7 ∧ ∀ (j x : Nat), l[j]? = some x → μ 36 j = nI x
theorem OR.moved {μ μ1 : Mem} {l : List Nat} (h : OR μ l) (h1 : μ1 35 2 = μ 35 2) (h2 : μ1 36 = μ 36) : OR μ1 l := ⟨h1.trans h.1, h.2.1, fun j x hj => by rw [h2]; exact h.2.2 j x hj⟩
theorem OR.snoc {μ : Mem} {l : List Nat} {x : Nat} (h : OR μ l) (hl : l.length < 7) : OR (mset (mset μ 35 2 (nI (l.length + 1))) 36 l.length (nI x)) (l ++ [x]) := by
  refine ⟨?_, by rw [List.length_append, List.length_singleton]; omega, fun j y hj => ?_⟩
  · rw [List.length_append, List.length_singleton]
    exact (congrFun (mset_ne (by omega)) 2).trans mset_eq
  · by_cases hjl : j = l.length
    · subst hjl
      rw [List.getElem?_append_right (Nat.le_refl _)] at hj
      simp only [Nat.sub_self, List.getElem?_cons_zero, Option.some.injEq] at hj
      subst hj
      exact mset_eq
    · have hlt : j < l.length := by
        have := (List.getElem?_eq_some_iff.mp hj).1
        rw [List.length_append, List.length_singleton] at this
        omega
      rw [List.getElem?_append_left hlt] at hj
      exact (mset_nj hjl).trans ((congrFun (mset_ne (by omega)) j).trans (h.2.2 j y hj))
theorem c_X0_begin (sb : Nat) (hsb : SB sb) (v : View) (μ : Mem) (hv : SV μ sb v) : CA eV yX0_begin cX0_begin 2 none 0 [.ref 35, .ref sb] μ (fun _ μ1 => (∀ k, k ≠ 31 → k ≠ 35 → μ1 k = μ k) ∧ (∀ j, j ≠ 7 → j ≠ 8 → j ≠ 9 → μ1 35 j = μ 35 j) ∧ μ1 35 7 = nI sb ∧ μ1 35 8 = nI 0 ∧ μ1 35 9 = nI 0 ∧ μ1 31 2 = nI (v 0 0)) := by
  obtain ⟨hs0, hs1, hs2, hs3, hs4, hr4, hr5, hr6, hr7, hs9⟩ := hsb.f
  obtain ⟨⟨e0, b0⟩, ⟨e1, b1⟩, ⟨e2, b2⟩, ⟨e3, b3⟩, hp⟩ := id hv
  refine CT.of false (by decide) (by decide) (L := [some (.ref 35), some (.ref sb)]) rfl (Nat.le_of_ble_eq_true rfl) ?_
  refine g_aload_n (pc := 0) dX0_begin_0 rfl ?_
  refine g_aload_n (pc := 1) dX0_begin_1 rfl ?_
  refine a_putd (pc := 2) fw_X0_34 dX0_begin_2 (by first | rfl | assumption) rfl (by omega) rfl rfl ?_
  refine g_aload_n (pc := 5) dX0_begin_5 rfl ?_
  refine g_iconst (pc := 6) (v := (nI 0)) dX0_begin_6 (by decide) ?_
  refine a_puti (pc := 7) fw_X0_84 dX0_begin_7 (by first | rfl | assumption) rfl ?_
  refine g_aload_n (pc := 10) dX0_begin_10 rfl ?_
  refine g_iconst (pc := 11) (v := (nI 0)) dX0_begin_11 (by decide) ?_
  refine a_puti (pc := 12) fw_X0_87 dX0_begin_12 (by first | rfl | assumption) rfl ?_
  refine g_aload_n (pc := 15) dX0_begin_15 rfl ?_
  refine a_getr (pc := 16) (q := 16) fl_X0_30 dX0_begin_16 (by first | rfl | assumption) rfl rfl ?_
  refine a_getr (pc := 19) (q := 31) fl_X0_90 dX0_begin_19 (by first | rfl | assumption) rfl rfl ?_
  refine g_iconst (pc := 22) (v := (nI 2)) dX0_begin_22 (by decide) ?_
  refine g_aload_n (pc := 23) dX0_begin_23 rfl ?_
  refine v_geti (pc := 24) fl_X0_95 dX0_begin_24 (by first | rfl | assumption) rfl ((congrFun (mset_ne (by omega)) 0).trans ((congrFun (mset_ne (by omega)) 0).trans ((congrFun (mset_ne (by omega)) 0).trans e0))) ?_
  refine a_iast (pc := 27) dX0_begin_27 (by first | rfl | assumption) rfl (by first | decide | assumption | omega) ?_
  refine g_return (pc := 28) (x := ()) dX0_begin_28 rfl rfl ⟨_, rfl, ?_⟩
  refine ⟨fun k h1 h2 => ?_, fun j h1 h2 h3 => ?_, ?_, ?_, ?_, mset_eq⟩
  · rw [mset_ne h1, mset_ne h2, mset_ne h2, mset_ne h2]
  · rw [mset_ne (by omega), mset_nj h3, mset_nj h2, mset_nj h1]
  · rw [mset_ne (by omega), mset_nj (by omega), mset_nj (by omega), mset_eq]
  · rw [mset_ne (by omega), mset_nj (by omega), mset_eq]
  · rw [mset_ne (by omega), mset_eq]
theorem c_X0_clear (μ : Mem) : CA eV yX0_clear cX0_clear 1 none 0 [.ref 35] μ (fun _ μ1 => μ1 = mset μ 35 2 (nI 0)) := by
  refine CT.of false (by decide) (by decide) (L := [some (.ref 35)]) rfl (Nat.le_of_ble_eq_true rfl) ?_
  refine g_aload_n (pc := 0) dX0_clear_0 rfl ?_
  refine g_iconst (pc := 1) (v := (nI 0)) dX0_clear_1 (by decide) ?_
  refine a_puti (pc := 2) fw_X0_38 dX0_clear_2 (by first | rfl | assumption) rfl ?_
  refine g_return (pc := 5) (x := ()) dX0_clear_5 rfl rfl ⟨_, rfl, ?_⟩
  rfl
theorem c_X0_append (μ : Mem) (l : List Nat) (x : Nat) (hl : l.length < 7) (ho : OR μ l) : CA eV yX0_append cX0_append 2 none 0 [.ref 35, .int (nI x)] μ (fun _ μ1 => μ1 = mset (mset μ 35 2 (nI (l.length + 1))) 36 l.length (nI x)) := by
  refine CT.of false (by decide) (by decide) (L := [some (.ref 35), some (.int (nI x))]) rfl (Nat.le_of_ble_eq_true rfl) ?_
  refine g_aload_n (pc := 0) dX0_append_0 rfl ?_
  refine v_geti (pc := 1) fl_X0_38 dX0_append_1 (by first | rfl | assumption) rfl ho.1 ?_
  refine g_bipush (pc := 4) (v := (nI 7)) dX0_append_4 (by decide) ?_
  refine g_icmp_ge (pc := 6) (tgt := 26) dX0_append_6 (by decide) (fun c_6 => absurd c_6 (fun h => absurd (nI_le' (by omega) (by omega) h) (by omega))) (fun c_6 => ?_)
  refine g_aload_n (pc := 9) dX0_append_9 rfl ?_
  refine a_getr (pc := 10) (q := 36) fl_X0_9 dX0_append_10 (by first | rfl | assumption) rfl rfl ?_
  refine g_aload_n (pc := 13) dX0_append_13 rfl ?_
  refine g_dup (pc := 14) dX0_append_14 rfl ?_
  refine v_geti (pc := 15) fl_X0_38 dX0_append_15 (by first | rfl | assumption) rfl ho.1 ?_
  refine g_dup_x1 (pc := 18) dX0_append_18 rfl rfl ?_
  refine g_iconst (pc := 19) (v := (nI 1)) dX0_append_19 (by decide) ?_
  refine v_iadd (pc := 20) dX0_append_20 (nI_add _ _) ?_
  refine a_puti (pc := 21) fw_X0_38 dX0_append_21 (by first | rfl | assumption) rfl ?_
  refine g_iload_n (pc := 24) dX0_append_24 rfl ?_
  refine a_iast (pc := 25) dX0_append_25 (by first | rfl | assumption) rfl (by first | decide | assumption | omega) ?_
  refine g_return (pc := 26) (x := ()) dX0_append_26 rfl rfl ⟨_, rfl, ?_⟩
  rfl
/-- of n parts those whose bits are told -/
def chs (b n : Nat) : List Nat := (List.range n).filter (fun i => bitAt b i == 1)
theorem chs_len (b n : Nat) : (chs b n).length ≤ n := by
  have := List.length_filter_le (fun i => bitAt b i == 1) (List.range n)
  rw [List.length_range] at this
  exact this
theorem chs_succ (b n : Nat) : chs b (n + 1) = if bitAt b n = 1 then chs b n ++ [n] else chs b n := by
  unfold chs
  rw [List.range_succ, List.filter_append]
  by_cases h : bitAt b n = 1
  · rw [if_pos h]
    simp [h]
  · rw [if_neg h]
    simp [h]
theorem c_X0_choose (sb : Nat) (hsb : SB sb) (v : View) (μ : Mem) (hv : SV μ sb v) (b : Nat) (hb : b < 128) : CA eV yX0_choose cX0_choose 4 none 1 [.ref 35, .ref sb, .int (nI b)] μ (fun _ μ1 => OR μ1 (chs b (v 0 3)) ∧ (∀ k, k ≠ 35 → k ≠ 36 → μ1 k = μ k) ∧ ∀ j, j ≠ 2 → μ1 35 j = μ 35 j) := by
  obtain ⟨hs0, hs1, hs2, hs3, hs4, hr4, hr5, hr6, hr7, hs9⟩ := hsb.f
  obtain ⟨⟨e0, b0⟩, ⟨e1, b1⟩, ⟨e2, b2⟩, ⟨e3, b3⟩, hp⟩ := id hv
  refine CT.of false (by decide) (by decide) (L := [some (.ref 35), some (.ref sb), some (.int (nI b)), none]) rfl (Nat.le_of_ble_eq_true rfl) ?_
  refine g_aload_n (pc := 0) dX0_choose_0 rfl ?_
  refine a_cv0v (pc := 1) (c_X0_clear μ) m_X0_clear ml_X0_41 (by omega) (by first | rfl | assumption) rfl rfl (Nat.le_of_ble_eq_true rfl) dX0_choose_1 (fun x_1 μ_1 h_1 => ?_)
  have hm_1 := (show μ_1 = _ from h_1).symm
  subst hm_1
  refine g_iconst (pc := 4) (v := (nI 0)) dX0_choose_4 (by decide) ?_
  refine a_ist3 (pc := 5) dX0_choose_5 (by decide) rfl ?_
  have lp6 : ∀ (zz : Nat) (i : Nat) (hi : i ≤ v 0 3) (ν : Mem) (hν : OR ν (chs b i) ∧ (∀ k, k ≠ 35 → k ≠ 36 → ν k = μ k) ∧ ∀ j, j ≠ 2 → ν 35 j = μ 35 j), v 0 3 - i = zz → WG eV yX0_choose.cls cX0_choose 4 none false (fun _ _ => True) 1 (mpost (fun _ μ1 => OR μ1 (chs b (v 0 3)) ∧ (∀ k, k ≠ 35 → k ≠ 36 → μ1 k = μ k) ∧ ∀ j, j ≠ 2 → μ1 35 j = μ 35 j)) 0 0 6 [some (.ref 35), some (.ref sb), some (.int (nI b)), some (.int (nI i))] [] (mk ν) := by
    intro zz
    induction zz using Nat.strongRecOn with
    | ind zz ih =>
      intro i hi ν hν hzz
      have hcl := chs_len b i
      refine g_iload_n (pc := 6) dX0_choose_6 rfl ?_
      refine g_aload_n (pc := 7) dX0_choose_7 rfl ?_
      refine v_geti (pc := 8) fl_X0_44 dX0_choose_8 (by first | rfl | assumption) rfl ((congrFun (hν.2.1 sb (by omega) (by omega)) 3).trans e3) ?_
      refine g_icmp_ge (pc := 11) (tgt := 33) dX0_choose_11 (by decide) (fun c_11 => ?_) (fun c_11 => ?_)
      · have c11 := nI_le' (by omega) (by omega) c_11
        obtain rfl : i = v 0 3 := by omega
        refine g_return (pc := 33) (x := ()) dX0_choose_33 rfl rfl ⟨_, rfl, ?_⟩
        exact hν
      · have c11 := nI_gt' (by omega) (by omega) c_11
        refine g_iload_n (pc := 14) dX0_choose_14 rfl ?_
        refine g_iload_n (pc := 15) dX0_choose_15 rfl ?_
        refine v_ishr (pc := 16) dX0_choose_16 rfl ?_
        refine g_iconst (pc := 17) (v := (nI 1)) dX0_choose_17 (by decide) ?_
        refine v_iand (pc := 18) dX0_choose_18 (bit_lem b hb i (by omega)) ?_
        refine g_if_eq (pc := 19) (tgt := 27) dX0_choose_19 (by decide) (fun c_19 => ?_) (fun c_19 => ?_)
        · have hb0 : ¬ bitAt b i = 1 := fun h => by
            rw [h] at c_19
            exact absurd c_19 (by decide)
          have hnx : OR ν (chs b (i + 1)) ∧ (∀ k, k ≠ 35 → k ≠ 36 → ν k = μ k) ∧ ∀ j, j ≠ 2 → ν 35 j = μ 35 j := by
            rw [chs_succ, if_neg hb0]
            exact hν
          refine a_iinc3 (pc := 27) dX0_choose_27 (inc1 i) (by decide) rfl ?_
          refine g_goto (pc := 30) (tgt := 6) dX0_choose_30 (by decide) ?_
          exact ih (v 0 3 - (i + 1)) (by omega) (i + 1) (by omega) _ hnx rfl
        · have hb0 : bitAt b i = 1 := by
            have h1 := bit_le b i
            rcases Nat.lt_or_ge 0 (bitAt b i) with h | h
            · omega
            · rw [show bitAt b i = 0 by omega] at c_19
              exact absurd rfl c_19
          refine g_aload_n (pc := 22) dX0_choose_22 rfl ?_
          refine g_iload_n (pc := 23) dX0_choose_23 rfl ?_
          refine a_cv1v (pc := 24) (c_X0_append ν (chs b i) i (by omega) hν.1) m_X0_append ml_X0_49 (by omega) (by first | rfl | assumption) rfl rfl (Nat.le_of_ble_eq_true rfl) dX0_choose_24 (fun x_24 μ_24 h_24 => ?_)
          have hm := (show μ_24 = _ from h_24).symm
          subst hm
          have hnx : OR (mset (mset ν 35 2 (nI ((chs b i).length + 1))) 36 (chs b i).length (nI i)) (chs b (i + 1)) ∧ (∀ k, k ≠ 35 → k ≠ 36 → mset (mset ν 35 2 (nI ((chs b i).length + 1))) 36 (chs b i).length (nI i) k = μ k) ∧ ∀ j, j ≠ 2 → mset (mset ν 35 2 (nI ((chs b i).length + 1))) 36 (chs b i).length (nI i) 35 j = μ 35 j := by
            rw [chs_succ, if_pos hb0]
            refine ⟨hν.1.snoc (by omega), fun k h1 h2 => ?_, fun j hj => ?_⟩
            · rw [mset_ne h2, mset_ne h1]
              exact hν.2.1 k h1 h2
            · rw [mset_ne (by omega), mset_nj hj]
              exact hν.2.2 j hj
          refine a_iinc3 (pc := 27) dX0_choose_27 (inc1 i) (by decide) rfl ?_
          refine g_goto (pc := 30) (tgt := 6) dX0_choose_30 (by decide) ?_
          exact ih (v 0 3 - (i + 1)) (by omega) (i + 1) (by omega) _ hnx rfl
  exact lp6 _ 0 (Nat.zero_le _) _ ⟨⟨mset_eq, Nat.zero_le 7, fun j x h => by simp [chs] at h⟩, fun k h1 h2 => mset_ne h1, fun j h => mset_nj h⟩ rfl
