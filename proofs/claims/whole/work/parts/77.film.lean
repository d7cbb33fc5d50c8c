/-! ===== the model: unlike, film, tells ===== -/
theorem zsh_lem : ∀ p, p < 7 → nI 0 <<< (nI p &&& 31) = nI 0 := by decide
theorem or_0 (x : Int32) : x ||| nI 0 = x := by
  apply Int32.toBitVec_inj.mp
  show x.toBitVec ||| 0#32 = x.toBitVec
  simp
theorem c_X8_unlike (v : View) (tc : Nat) (sz : Nat → Nat) (tb : Nat → Nat → Nat) (μ : Mem) (hW : MW μ v tc sz tb) (s : Nat) (hs : s < 4) (g : Nat → Int32) (hg : ∀ p, p < v 0 3 → μ 71 (40 * s + p) = g p) : CA eI yX8_unlike cX8_unlike 4 (some .int) 46 [.ref 57, .int (nI s)] μ (fun r μ1 => r = othB (LF v (QM sz tb (v 0 2))) g (v 0 3) ∧ IFm μ μ1) := by
  obtain ⟨hV, hTx, hru⟩ := id hW
  obtain ⟨⟨v1, v1b⟩, ⟨v2, v2b⟩, ⟨v3, v3b⟩, ⟨v4, v4b⟩, v5⟩ := id hV
  refine CT.of false (by decide) (by decide) (L := [some (.ref 57), some (.int (nI s)), none, none]) rfl (Nat.le_of_ble_eq_true rfl) ?_
  refine g_aload_n (pc := 0) dX8_unlike_0 rfl ?_
  refine g_iconst (pc := 1) (v := (-1)) dX8_unlike_1 (by decide) ?_
  refine a_cv1i (pc := 2) (c_X8_plainBut v tc sz tb μ hW (-1) 127 left_none) m_X8_plainBut ml_X8_264 (by omega) (by first | rfl | assumption) rfl rfl (Nat.le_of_ble_eq_true rfl) dX8_unlike_2 (fun x_2 μ_2 h_2 => ?_)
  obtain ⟨o2, -, f2⟩ := h_2
  refine g_pop (pc := 5) dX8_unlike_5 rfl ?_
  refine g_iconst (pc := 6) (v := (nI 0)) dX8_unlike_6 (by decide) ?_
  refine a_ist2 (pc := 7) dX8_unlike_7 (by decide) rfl ?_
  refine g_iconst (pc := 8) (v := (nI 0)) dX8_unlike_8 (by decide) ?_
  refine a_ist3 (pc := 9) dX8_unlike_9 (by decide) rfl ?_
  have lp10 : ∀ (zz : Nat) (i : Nat) (hi : i ≤ v 0 3), v 0 3 - i = zz → WG eI yX8_unlike.cls cX8_unlike 4 (some .int) false (fun _ _ => True) 46 (mpost (fun r μ1 => r = othB (LF v (QM sz tb (v 0 2))) g (v 0 3) ∧ IFm μ μ1)) 0 0 10 [some (.ref 57), some (.int (nI s)), some (.int (othB (LF v (QM sz tb (v 0 2))) g i)), some (.int (nI i))] [] (mk μ_2) := by
    intro zz
    induction zz using Nat.strongRecOn with
    | ind zz ih =>
      intro i hi hzz
      have hrec : othB (LF v (QM sz tb (v 0 2))) g (i + 1) = if nI (LF v (QM sz tb (v 0 2)) i) = g i then othB (LF v (QM sz tb (v 0 2))) g i else othB (LF v (QM sz tb (v 0 2))) g i ||| (nI 1 <<< (nI i &&& 31)) := rfl
      refine g_iload_n (pc := 10) dX8_unlike_10 rfl ?_
      refine g_aload_n (pc := 11) dX8_unlike_11 rfl ?_
      refine v_geti (pc := 12) fl_X8_73 dX8_unlike_12 (by first | rfl | assumption) rfl ((f2.2 11 (by omega)).trans v4) ?_
      refine g_icmp_ge (pc := 15) (tgt := 54) dX8_unlike_15 (by decide) (fun c_15 => ?_) (fun c_15 => ?_)
      · have c15 := nI_le' (by omega) (by omega) c_15
        obtain rfl : i = v 0 3 := by omega
        refine g_iload_n (pc := 54) dX8_unlike_54 rfl ?_
        refine g_ireturn (pc := 55) dX8_unlike_55 rfl (by first | rfl | decide) rfl ⟨_, rfl, ?_⟩
        exact ⟨rfl, f2⟩
      · have c15 := nI_gt' (by omega) (by omega) c_15
        refine g_iload_n (pc := 18) dX8_unlike_18 rfl ?_
        refine g_aload_n (pc := 19) dX8_unlike_19 rfl ?_
        refine a_getr (pc := 20) (q := 63) fl_X8_35 dX8_unlike_20 (by first | rfl | assumption) rfl rfl ?_
        refine g_iload_n (pc := 23) dX8_unlike_23 rfl ?_
        refine v_iald (pc := 24) dX8_unlike_24 (by first | rfl | assumption) rfl (by omega) (show _ = nI (LF v (QM sz tb (v 0 2)) i) from (o2.1.1 i c15).1) ?_
        refine g_aload_n (pc := 25) dX8_unlike_25 rfl ?_
        refine a_getr (pc := 26) (q := 71) fl_X8_63 dX8_unlike_26 (by first | rfl | assumption) rfl rfl ?_
        refine g_bipush (pc := 29) (v := (nI 40)) dX8_unlike_29 (by decide) ?_
        refine g_iload_n (pc := 31) dX8_unlike_31 rfl ?_
        refine v_imul (pc := 32) dX8_unlike_32 (pk_mul 40 s) ?_
        refine g_iload_n (pc := 33) dX8_unlike_33 rfl ?_
        refine v_iadd (pc := 34) dX8_unlike_34 (nI_add _ i) ?_
        refine v_iald (pc := 35) dX8_unlike_35 (by first | rfl | assumption) rfl (by omega) ((congrFun (f2.1 71 (by omega) (by omega) (by omega)) _).trans (hg i c15)) ?_
        refine g_icmp_ne (pc := 36) (tgt := 43) dX8_unlike_36 (by decide) (fun c_36 => ?_) (fun c_36 => ?_)
        · rw [if_neg c_36] at hrec
          refine g_iconst (pc := 43) (v := (nI 1)) dX8_unlike_43 (by decide) ?_
          refine g_iload_n (pc := 44) dX8_unlike_44 rfl ?_
          refine v_ishl (pc := 45) dX8_unlike_45 rfl ?_
          refine v_ior (pc := 46) dX8_unlike_46 rfl ?_
          refine a_ist2 (pc := 47) dX8_unlike_47 (by decide) rfl ?_
          refine a_iinc3 (pc := 48) dX8_unlike_48 (inc1 i) (by decide) rfl ?_
          refine g_goto (pc := 51) (tgt := 10) dX8_unlike_51 (by decide) ?_
          have hfin := ih (v 0 3 - (i + 1)) (by omega) (i + 1) (by omega) rfl
          rw [hrec] at hfin
          exact hfin
        · rw [if_pos c_36] at hrec
          refine g_iconst (pc := 39) (v := (nI 0)) dX8_unlike_39 (by decide) ?_
          refine g_goto (pc := 40) (tgt := 44) dX8_unlike_40 (by decide) ?_
          refine g_iload_n (pc := 44) dX8_unlike_44 rfl ?_
          refine v_ishl (pc := 45) dX8_unlike_45 (zsh_lem i (by omega)) ?_
          refine v_ior (pc := 46) dX8_unlike_46 (or_0 _) ?_
          refine a_ist2 (pc := 47) dX8_unlike_47 (by decide) rfl ?_
          refine a_iinc3 (pc := 48) dX8_unlike_48 (inc1 i) (by decide) rfl ?_
          refine g_goto (pc := 51) (tgt := 10) dX8_unlike_51 (by decide) ?_
          have hfin := ih (v 0 3 - (i + 1)) (by omega) (i + 1) (by omega) rfl
          rw [hrec] at hfin
          exact hfin
  exact lp10 _ 0 (Nat.zero_le _) rfl
theorem c_X8_film (v : View) (tc : Nat) (sz : Nat → Nat) (tb : Nat → Nat → Nat) (μ : Mem) (hW : MW μ v tc sz tb) (zs : Nat → Int32) (zn : Nat → Nat) (zi : Nat → Nat → Int32) (hz : ZMs μ zs zn zi) (s : Int32) : CA eI yX8_film cX8_film 3 (some .int) 46 [.ref 57, .int s] μ (fun r μ1 => (¬ nx s < 4 ∧ r = -2 ∧ μ1 = μ) ∨ (nx s < 4 ∧ r = nI (v 0 3) ∧ ZMs μ1 (updN zs (nx s) (nI 0)) (updN zn (nx s) (v 0 3)) (updN zi (nx s) (fun p => nI (LF v (QM sz tb (v 0 2)) p))) ∧ (∀ k, k ≠ 57 → k ≠ 63 → k ≠ 64 → (k < 68 ∨ 71 < k) → μ1 k = μ k) ∧ ∀ j, j < 12 ∨ 30 < j → μ1 57 j = μ 57 j)) := by
  obtain ⟨hV, hTx, hru⟩ := id hW
  obtain ⟨⟨v1, v1b⟩, ⟨v2, v2b⟩, ⟨v3, v3b⟩, ⟨v4, v4b⟩, v5⟩ := id hV
  refine CT.of false (by decide) (by decide) (L := [some (.ref 57), some (.int s), none]) rfl (Nat.le_of_ble_eq_true rfl) ?_
  refine g_iload_n (pc := 0) dX8_film_0 rfl ?_
  refine a_cs1i (pc := 1) (c_X8_isSheet s μ) m_X8_isSheet ml_X8_270 (by omega) (Nat.le_of_ble_eq_true rfl) dX8_film_1 (fun x_1 μ_1 h_1 => ?_)
  obtain ⟨hm_1, hd_1⟩ := h_1
  have hm_1 := hm_1.symm
  subst hm_1
  refine g_if_ne (pc := 4) (tgt := 10) dX8_film_4 (by decide) (fun c_4 => ?_) (fun c_4 => ?_)
  · have c4 := (hd_1.resolve_right (fun q => c_4 q.1)).2
    have e_a := nx_lt c4 (by omega)
    generalize j_a : nx s = a at e_a c4
    subst e_a
    refine g_aload_n (pc := 10) dX8_film_10 rfl ?_
    refine g_iconst (pc := 11) (v := (-1)) dX8_film_11 (by decide) ?_
    refine a_cv1i (pc := 12) (c_X8_plainBut v tc sz tb μ hW (-1) 127 left_none) m_X8_plainBut ml_X8_264 (by omega) (by first | rfl | assumption) rfl rfl (Nat.le_of_ble_eq_true rfl) dX8_film_12 (fun x_12 μ_12 h_12 => ?_)
    obtain ⟨o12, -, f12⟩ := h_12
    refine g_pop (pc := 15) dX8_film_15 rfl ?_
    refine g_aload_n (pc := 16) dX8_film_16 rfl ?_
    refine g_iload_n (pc := 17) dX8_film_17 rfl ?_
    refine g_iconst (pc := 18) (v := (nI 0)) dX8_film_18 (by decide) ?_
    refine g_aload_n (pc := 19) dX8_film_19 rfl ?_
    refine v_geti (pc := 20) fl_X8_73 dX8_film_20 (by first | rfl | assumption) rfl ((f12.2 11 (by omega)).trans v4) ?_
    refine a_cv3i (pc := 23) (c_X8_sheet zs zn zi μ_12 (hz.qfm f12.qfm) (nI a) (nI 0) (nI (v 0 3))) m_X8_sheet ml_X8_311 (by omega) (by first | rfl | assumption) rfl rfl (Nat.le_of_ble_eq_true rfl) dX8_film_23 (fun x_23 μ_23 h_23 => ?_)
    rw [j_a, nx_nI (show v 0 3 < 2 ^ 31 by omega)] at h_23
    have h_23 := h_23.resolve_left (fun q => q.1 ⟨by omega, Or.inr (by decide)⟩)
    have h_23 := h_23.resolve_left (fun q => absurd q.2.1 (by decide))
    have h_23 := h_23.2.2.resolve_left (fun q => by omega)
    have h_23 := h_23.resolve_left (fun q => absurd q.1 (nI_pos (by omega)))
    obtain ⟨-, -, z23, f23⟩ := h_23
    refine g_pop (pc := 26) dX8_film_26 rfl ?_
    refine g_iconst (pc := 27) (v := (nI 0)) dX8_film_27 (by decide) ?_
    refine a_ist2 (pc := 28) dX8_film_28 (by decide) rfl ?_
    have lp29 : ∀ (zz : Nat) (i : Nat) (hi : i ≤ v 0 3) (ν : Mem) (hν : (∀ p, p < i → ν 71 (40 * a + p) = nI (LF v (QM sz tb (v 0 2)) p)) ∧ (∀ k, k < 40 * a ∨ 40 * a + 40 ≤ k → ν 71 k = μ_23 71 k) ∧ ∀ c, c ≠ 71 → ν c = μ_23 c), v 0 3 - i = zz → WG eI yX8_film.cls cX8_film 3 (some .int) false (fun _ _ => True) 46 (mpost (fun r μ1 => (¬ a < 4 ∧ r = -2 ∧ μ1 = μ) ∨ (a < 4 ∧ r = nI (v 0 3) ∧ ZMs μ1 (updN zs a (nI 0)) (updN zn a (v 0 3)) (updN zi a (fun p => nI (LF v (QM sz tb (v 0 2)) p))) ∧ (∀ k, k ≠ 57 → k ≠ 63 → k ≠ 64 → (k < 68 ∨ 71 < k) → μ1 k = μ k) ∧ ∀ j, j < 12 ∨ 30 < j → μ1 57 j = μ 57 j))) 0 0 29 [some (.ref 57), some (.int (nI a)), some (.int (nI i))] [] (mk ν) := by
      intro zz
      induction zz using Nat.strongRecOn with
      | ind zz ih =>
        intro i hi ν hν hzz
        obtain ⟨a1, a2, a3⟩ := hν
        refine g_iload_n (pc := 29) dX8_film_29 rfl ?_
        refine g_aload_n (pc := 30) dX8_film_30 rfl ?_
        refine v_geti (pc := 31) fl_X8_73 dX8_film_31 (by first | rfl | assumption) rfl ((congrFun (a3 57 (by omega)) 11).trans ((congrFun (f23 57 (by omega)) 11).trans ((f12.2 11 (by omega)).trans v4))) ?_
        refine g_icmp_ge (pc := 34) (tgt := 60) dX8_film_34 (by decide) (fun c_34 => ?_) (fun c_34 => ?_)
        · have c34 := nI_le' (by omega) (by omega) c_34
          obtain rfl : i = v 0 3 := by omega
          refine g_aload_n (pc := 60) dX8_film_60 rfl ?_
          refine v_geti (pc := 61) fl_X8_73 dX8_film_61 (by first | rfl | assumption) rfl ((congrFun (a3 57 (by omega)) 11).trans ((congrFun (f23 57 (by omega)) 11).trans ((f12.2 11 (by omega)).trans v4))) ?_
          refine g_ireturn (pc := 64) dX8_film_64 rfl (by first | rfl | decide) rfl ⟨_, rfl, ?_⟩
          refine Or.inr ⟨c4, rfl, fun t ht => ?_, fun k h1 h2 h3 h4 => (a3 k (by omega)).trans ((f23 k (by omega)).trans (f12.1 k h1 h2 h3)), fun j hj => (congrFun (a3 57 (by omega)) j).trans ((congrFun (f23 57 (by omega)) j).trans (f12.2 j hj))⟩
          rw [a3 68 (by decide), a3 69 (by decide), a3 70 (by decide)]
          rcases z23 t ht with q | ⟨q1, q2, q3, q4, q5, q6⟩
          · exact Or.inl q
          · refine Or.inr ⟨q1, q2, q3, q4, q5, fun j hj => ?_⟩
            by_cases hta : t = a
            · subst hta
              rw [updN_eq] at hj ⊢
              exact a1 j hj
            · rw [updN_ne _ _ hta]
              rw [updN_ne _ _ hta] at q5 hj
              have q6 := q6 j (by rw [updN_ne _ _ hta]; exact hj)
              rw [updN_ne _ _ hta] at q6
              exact (a2 _ (by omega)).trans q6
        · have c34 := nI_gt' (by omega) (by omega) c_34
          refine g_aload_n (pc := 37) dX8_film_37 rfl ?_
          refine a_getr (pc := 38) (q := 71) fl_X8_63 dX8_film_38 (by first | rfl | assumption) rfl rfl ?_
          refine g_bipush (pc := 41) (v := (nI 40)) dX8_film_41 (by decide) ?_
          refine g_iload_n (pc := 43) dX8_film_43 rfl ?_
          refine v_imul (pc := 44) dX8_film_44 (pk_mul 40 a) ?_
          refine g_iload_n (pc := 45) dX8_film_45 rfl ?_
          refine v_iadd (pc := 46) dX8_film_46 (nI_add _ i) ?_
          refine g_aload_n (pc := 47) dX8_film_47 rfl ?_
          refine a_getr (pc := 48) (q := 63) fl_X8_35 dX8_film_48 (by first | rfl | assumption) rfl rfl ?_
          refine g_iload_n (pc := 51) dX8_film_51 rfl ?_
          refine v_iald (pc := 52) dX8_film_52 (by first | rfl | assumption) rfl (by omega) (show _ = nI (LF v (QM sz tb (v 0 2)) i) from (congrFun (a3 63 (by omega)) i).trans ((congrFun (f23 63 (by omega)) i).trans (o12.1.1 i c34).1)) ?_
          refine a_iast (pc := 53) dX8_film_53 (by first | rfl | assumption) rfl (by omega) ?_
          refine a_iinc2 (pc := 54) dX8_film_54 (inc1 i) (by decide) rfl ?_
          refine g_goto (pc := 57) (tgt := 29) dX8_film_57 (by decide) ?_
          refine ih (v 0 3 - (i + 1)) (by omega) (i + 1) (by omega) _ ⟨fun j hj => ?_, fun k hk => (mset_nj (by omega)).trans (a2 k hk), fun c hc => (mset_ne hc).trans (a3 c hc)⟩ rfl
          by_cases hji : j = i
          · subst hji
            exact mset_eq
          · rw [mset_nj (by omega)]
            exact a1 j (by omega)
    exact lp29 _ 0 (Nat.zero_le _) _ ⟨fun j hj => absurd hj (Nat.not_lt_zero j), fun _ _ => rfl, fun _ _ => rfl⟩ rfl
  · have c4 := (hd_1.resolve_left (fun q => absurd (q.1.symm.trans c_4) (by decide))).2
    refine g_bipush (pc := 7) (v := (-2)) dX8_film_7 (by decide) ?_
    refine g_ireturn (pc := 9) dX8_film_9 rfl (by first | rfl | decide) rfl ⟨_, rfl, ?_⟩
    exact Or.inl ⟨c4, rfl, rfl⟩
